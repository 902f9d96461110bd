set_option maxHeartbeats 4000000 in
set_option maxRecDepth 100000 in
theorem c_X10_closesIn (l : Launch) (D : va_G) (T : Nat → ClassId) (b : Nat → Nat) (y : Nat → Nat → Int32) (w : Int64) (j : Nat) (N : Nat) (K : Nat) (C : Nat) (nt : Nat) (hRI : RI (y 1) N K C nt) (hj : j < N) (hf : ∃ fl, fl ≤ nt ∧ y 1 (34 + 7 * j + 3) = nI fl ∧ (y 1 (34 + 7 * j + 4) = 0 → nt < fl + 56)) (hnt2 : nt < 2 ^ 17) (sz : Nat) : Met l yX10_closesIn wsX10_closesIn ({ frames := 8, cells := 0, slots := 0, locals := 173 } : Room) (va_Pc [.ref (b 0), .int (nI j)] (PS D T (REF T b y w) sz)) (va_Qi (fun r9 (_ : Unit) => r9 = (nI (rUntil N K C j 57 nt (lay0 y)).1)) (fun _ t => QS D T (va_A (REF T b y w) sz) (REF T b (va_up y 3 (rUntil N K C j 57 nt (lay0 y)).2) w) t) (va_A (REF T b y w) sz)) 0 0 (va_A (REF T b y w) sz) := by
  refine metSi (cc := cX10_closesIn) (maxL := 3) (ty := .int) (by decide) rfl (by rfl) (Nat.le_of_ble_eq_true rfl) ?_
  intro p e s m args below meth c Q ls A hx hb hml hown hts hP hK hD hA hS hl hret
  have hown : s.vm.findClass RX10 = some m.cls := hown
  have hl : lv_has ls 3 [(0, .ref (b 0)), (1, .int (nI j))] := hl
  have i10 : ∀ w ∈ wsX100, w ∈ wsX10_closesIn := by decide +kernel
  have w1 := hts (Cond.fieldLink RX10 16 "MoonComplaintWindowModel" "spare" "[I") (List.mem_of_getElem? (i := 1) rfl)
  obtain ⟨hN, hN2, hKn, hK2, hC, hC1, hC2, hn, hnt, hSo, hSK⟩ := id hRI
  obtain ⟨fl, hfl, hf3, hfw⟩ := hf
  refine lv_aload_n hx hb dX10_closesIn_0 rfl (lv_at hl 0 rfl) ?_
  refine wrVv (As := []) (rest := []) ⟨hx, hb, hml, hown, hts⟩ (c_X10_takesSpare l D T b y w _) (cwV 0 hts gX10_closesIn_X10_takesSpare rfl rfl rfl (by decide +kernel) ⟨Nat.le_of_ble_eq_true rfl, Nat.le_of_ble_eq_true rfl⟩) (Foc.rfl _ _) hK hP hD hS hA 0 rfl rfl rfl hl.1 rfl (Nat.le_of_ble_eq_true rfl) ⟨Nat.zero_le _, Nat.zero_le _⟩ dX10_closesIn_1 (fun H locs hP hD hS => ?_)
  have hP : va_P D vwCl (REF T b (va_up y 3 (rLay (y 1) 0 0 (y 3))) w) H := hP
  have hD : va_D A (REF T b (va_up y 3 (rLay (y 1) 0 0 (y 3))) w) := hD
  refine lv_iconst (v := 0) hx hb dX10_closesIn_4 (by decide) ?_
  refine lv_istore_n (lv' := [(2, .int (0)), (0, .ref (b 0)), (1, .int (nI j))]) hx hb dX10_closesIn_5 rfl hl (by decide) rfl (fun ls hl => ?_)
  have L6 : ∀ (n9 : Nat) (n : Nat) (r1 : Nat → Int32), (57 - n) < n9 → (n ≤ 56) → (n + (rUntil N K C j (57 - n) (nt + n) r1).1 = (rUntil N K C j 57 nt (lay0 y)).1) → ((rUntil N K C j (57 - n) (nt + n) r1).2 = (rUntil N K C j 57 nt (lay0 y)).2) → (RI r1 N K C (nt + n)) → (r1 (34 + 7 * j + 3) = nI fl) → (r1 (34 + 7 * j + 4) = 0 → nt + n < fl + 56) → ∀ (H : Heap) (locs : List Loc) (ls : Array Slot), va_P D vwCl (REF T b (va_up y 3 r1) w) H → va_D A (REF T b (va_up y 3 r1) w) → va_S A s.heap H locs → lv_has ls 3 [(2, .int (nI n)), (0, .ref (b 0)), (1, .int (nI j))] → W p l e ({ frames := 8, cells := 0, slots := 0, locals := 173 } : Room) s m args below meth c H locs 0 0 Q (F0 m 6 ls []) := by
    intro n9
    induction n9 with
    | zero => intro n r1 hm9; exact absurd hm9 (Nat.not_lt_zero _)
    | succ n9 ih =>
      intro n r1 hm9 hn9 hR1 hR2 hr1 hf1 hw1 H locs ls hP hD hS hl
      obtain ⟨gN, gN2, gKn, gK2, gC, gC1, gC2, gn, gnt, gSo, gSK⟩ := id hr1
      refine lv_aload_n hx hb dX10_closesIn_6 rfl (lv_at hl 1 rfl) ?_
      refine va_get (D := D) (ci := 10) (v := .ref (b 3)) (C := RX10) (T := TX10) (N := 19) hx hb hts i10 hown hK hP 0 rfl rfl 2 (by decide) w1 (fun _ h9 => h9) rfl dX10_closesIn_7 ?_
      refine lv_iload_n hx hb dX10_closesIn_10 rfl (lv_at hl 2 rfl) ?_
      refine rdS (As := [.ref (b 3), .int (nI j)]) (rest := []) ⟨hx, hb, hml, hown, hts⟩ (c_X10_waits l D T (b 3) r1 j (by omega)) (va_cwS 2 hts gX10_closesIn_X10_waits rfl rfl rfl (by decide +kernel) ⟨Nat.le_of_ble_eq_true rfl, Nat.le_of_ble_eq_true rfl⟩) hK (hP.sub [3] rfl) rfl hl.1 rfl (Nat.le_of_ble_eq_true rfl) ⟨Nat.zero_le _, Nat.zero_le _⟩ dX10_closesIn_11 ?_
      refine lv_if_eq (tgt := 31) hx hb dX10_closesIn_14 (by decide) (fun c14 => ?_) (fun c14 => ?_)
      ·
        have c14 := bI_0.mp c14
        have c14 := of_decide_eq_false c14
        refine lv_iload_n hx hb dX10_closesIn_31 rfl (lv_at hl 0 rfl) ?_
        refine endI (r := nI (rUntil N K C j 57 nt (lay0 y)).1) (by rw [rUntil_done c14] at hR1; rw [← hR1]; rfl) ?_
        have hE : (va_up y 3 r1) = (va_up y 3 (rUntil N K C j 57 nt (lay0 y)).2) := by rw [rUntil_done c14] at hR2; rw [← hR2]
        exact hret _ _ _ _ dX10_closesIn_32 (by rw [← hE]; exact hP) (by rw [← hE]; exact hD) hS
      ·
        have c14 := bI_n0.mp c14
        have c14 := of_decide_eq_true c14
        have hw9 := hw1 c14
        refine lv_aload_n hx hb dX10_closesIn_17 rfl (lv_at hl 1 rfl) ?_
        refine va_get (D := D) (ci := 10) (v := .ref (b 3)) (C := RX10) (T := TX10) (N := 19) hx hb hts i10 hown hK hP 0 rfl rfl 2 (by decide) w1 (fun _ h9 => h9) rfl dX10_closesIn_18 ?_
        refine wrSi (As := [.ref (b 3)]) (rest := []) ⟨hx, hb, hml, hown, hts⟩ (c_X10_ends l D T (b 3) r1 N C (nt + n) K gN gN2 gC gC1 gC2 gn (by omega) gSo gKn gK2 gSK _) (va_cwS 1 hts gX10_closesIn_X10_ends rfl rfl rfl (by decide +kernel) ⟨Nat.le_of_ble_eq_true rfl, Nat.le_of_ble_eq_true rfl⟩) (show Foc (REF T b (va_up y 3 r1) w) _ (REF T b (va_up y 3 (rEnds N K C (nt + n) r1)) w) _ from Foc.one 3 rfl) hK hP hD hS hA rfl hl.1 rfl (Nat.le_of_ble_eq_true rfl) ⟨Nat.zero_le _, Nat.zero_le _⟩ dX10_closesIn_21 (fun H locs hP hD hS => ?_)
        have hP : va_P D vwCl (REF T b (va_up y 3 (rEnds N K C (nt + n) r1)) w) H := hP
        have hD : va_D A (REF T b (va_up y 3 (rEnds N K C (nt + n) r1)) w) := hD
        refine lv_pop hx hb dX10_closesIn_24 rfl ?_
        refine lv_iinc (v := nI (n + 1)) (lv' := [(2, .int (nI (n + 1))), (0, .ref (b 0)), (1, .int (nI j))]) hx hb dX10_closesIn_25 hl (k := 0) rfl (nI_1 _) (by decide) rfl (fun ls hl => ?_)
        refine lv_goto (tgt := 6) hx hb dX10_closesIn_28 (by decide) ?_
        exact ih (n + 1) (rEnds N K C (nt + n) r1) (by omega) (by omega) (by rw [show 57 - n = (57 - (n + 1)) + 1 from by omega, rUntil_step c14] at hR1; rw [← hR1]; show n + 1 + (rUntil N K C j (57 - (n + 1)) (nt + n + 1) _).1 = n + ((rUntil N K C j (57 - (n + 1)) (nt + n + 1) _).1 + 1); omega) (by rw [show 57 - n = (57 - (n + 1)) + 1 from by omega, rUntil_step c14] at hR2; exact hR2) (by exact hr1.ends (by omega)) (by exact (RWt.ends hr1 hj (by omega) hf1 hw1).1) (by exact (RWt.ends hr1 hj (by omega) hf1 hw1).2) _ _ _ hP hD hS (lv_sub hl [0, 1, 2] rfl)
  exact L6 _ 0 ((va_up y 3 (rLay (y 1) 0 0 (y 3))) 3) (Nat.lt_succ_self _) (by omega) (by exact Nat.zero_add _) (by rfl) (by exact hRI.lay) (by exact (rLay_0 (by omega)).trans hf3) (by exact fun q => hfw ((rLay_0 (r1 := y 1) (r2 := y 3) (by omega)).symm.trans q)) _ _ _ hP hD hS (lv_sub hl [0, 1, 2] rfl)

set_option maxHeartbeats 4000000 in
set_option maxRecDepth 100000 in
theorem c_X10_nightsToClose (l : Launch) (D : va_G) (T : Nat → ClassId) (b : Nat → Nat) (y : Nat → Nat → Int32) (w : Int64) (z : Int32) (N : Nat) (K : Nat) (C : Nat) (nt : Nat) (hRI : RI (y 1) N K C nt) (hW : RWt (y 1) N nt) (hnt2 : nt < 2 ^ 17) (sz : Nat) : Met l yX10_nightsToClose wsX10_nightsToClose ({ frames := 9, cells := 0, slots := 0, locals := 195 } : Room) (va_Pc [.ref (b 0), .int (z)] (PS D T (REF T b y w) sz)) (va_Qi (fun r9 (_ : Unit) => r9 = (if inN z N then (if y 1 (34 + 7 * z.toNatClampNeg + 4) = 0 then nI (rUntil N K C z.toNatClampNeg 57 nt (lay0 y)).1 else 0) else 0)) (fun _ t => QS D T (va_A (REF T b y w) sz) (REF T b (if inN z N then (if y 1 (34 + 7 * z.toNatClampNeg + 4) = 0 then yS (va_up y 3 (rUntil N K C z.toNatClampNeg 57 nt (lay0 y)).2) 3 0 else yS y 3 2) else yS y 3 1) w) t) (va_A (REF T b y w) sz)) 0 0 (va_A (REF T b y w) sz) := by
  refine metSi (cc := cX10_nightsToClose) (maxL := 2) (ty := .int) (by decide) rfl (by rfl) (Nat.le_of_ble_eq_true rfl) ?_
  intro p e s m args below meth c Q ls A hx hb hml hown hts hP hK hD hA hS hl hret
  have hown : s.vm.findClass RX10 = some m.cls := hown
  have hl : lv_has ls 2 [(0, .ref (b 0)), (1, .int (z))] := hl
  have i10 : ∀ w ∈ wsX100, w ∈ wsX10_nightsToClose := by decide +kernel
  have w1 := hts (Cond.fieldLink RX10 51 "MoonComplaintWindowModel" "thrown" "I") (List.mem_of_getElem? (i := 1) rfl)
  have w2 := hts (Cond.fieldLink RX10 7 "MoonComplaintWindowModel" "now" "[I") (List.mem_of_getElem? (i := 2) rfl)
  obtain ⟨hN, hN2, hKn, hK2, hC, hC1, hC2, hn, hnt, hSo, hSK⟩ := id hRI
  refine lv_aload_n hx hb dX10_nightsToClose_0 rfl (lv_at hl 0 rfl) ?_
  refine lv_iconst (v := 0) hx hb dX10_nightsToClose_1 (by decide) ?_
  refine va_put (D := D) (ci := 10) (v := .int (0)) (ty := .int) (C := RX10) (T := TX10) (N := 19) hx hb hts i10 tyX10 tyX10_ok nmX10 hown hK hP hD hS 0 rfl rfl 10 (by decide) w1 (fun _ h9 => h9) rfl (by decide +kernel) rfl rfl (Nat.le_of_ble_eq_true rfl) dX10_nightsToClose_2 (fun H locs hP hD hS => ?_)
  have hP : va_P D vwCl (REF T b (yS y 3 0) w) H := hP
  have hD : va_D A (REF T b (yS y 3 0) w) := hD
  refine lv_aload_n hx hb dX10_nightsToClose_5 rfl (lv_at hl 0 rfl) ?_
  refine lv_iload_n hx hb dX10_nightsToClose_6 rfl (lv_at hl 1 rfl) ?_
  refine rdV (As := [.int (z)]) (rest := []) ⟨hx, hb, hml, hown, hts⟩ (c_X10_isComplaint l D T b (yS y 3 0) w z N hN hN2) (cwV 1 hts gX10_nightsToClose_X10_isComplaint rfl rfl rfl (by decide +kernel) ⟨Nat.le_of_ble_eq_true rfl, Nat.le_of_ble_eq_true rfl⟩) hK hP 0 rfl rfl rfl hl.1 rfl (Nat.le_of_ble_eq_true rfl) ⟨Nat.zero_le _, Nat.zero_le _⟩ dX10_nightsToClose_7 ?_
  refine lv_if_ne (tgt := 19) hx hb dX10_nightsToClose_10 (by decide) (fun c10 => ?_) (fun c10 => ?_)
  ·
    have c10 := bI_n0.mp c10
    obtain ⟨j, hj, hjz, hjc⟩ := inN_t (by omega) c10
    rw [hjz] at hl
    have hl : lv_has ls 2 [(0, .ref (b 0)), (1, .int (nI j))] := hl
    refine lv_aload_n hx hb dX10_nightsToClose_19 rfl (lv_at hl 0 rfl) ?_
    refine va_get (D := D) (ci := 10) (v := .ref (b 1)) (C := RX10) (T := TX10) (N := 19) hx hb hts i10 hown hK hP 0 rfl rfl 0 (by decide) w2 (fun _ h9 => h9) rfl dX10_nightsToClose_20 ?_
    refine lv_iload_n hx hb dX10_nightsToClose_23 rfl (lv_at hl 1 rfl) ?_
    refine rdS (As := [.ref (b 1), .int (nI j)]) (rest := []) ⟨hx, hb, hml, hown, hts⟩ (c_X10_waits l D T (b 1) (y 1) j (by first | omega | assumption | decide)) (va_cwS 2 hts gX10_nightsToClose_X10_waits rfl rfl rfl (by decide +kernel) ⟨Nat.le_of_ble_eq_true rfl, Nat.le_of_ble_eq_true rfl⟩) hK (hP.sub [1] rfl) rfl hl.1 rfl (Nat.le_of_ble_eq_true rfl) ⟨Nat.zero_le _, Nat.zero_le _⟩ dX10_nightsToClose_24 ?_
    refine lv_if_eq (tgt := 36) hx hb dX10_nightsToClose_27 (by decide) (fun c27 => ?_) (fun c27 => ?_)
    ·
      have c27 := bI_0.mp c27
      have c27 := of_decide_eq_false c27
      refine lv_aload_n hx hb dX10_nightsToClose_36 rfl (lv_at hl 0 rfl) ?_
      refine lv_iconst (v := 2) hx hb dX10_nightsToClose_37 (by decide) ?_
      refine wrVi (As := [.int (2)]) (rest := []) ⟨hx, hb, hml, hown, hts⟩ (c_X10_fails l D T b (yS y 3 0) w 2 _) (cwV 1 hts gX10_nightsToClose_X10_fails rfl rfl rfl (by decide +kernel) ⟨Nat.le_of_ble_eq_true rfl, Nat.le_of_ble_eq_true rfl⟩) (Foc.rfl _ _) hK hP hD hS hA 0 rfl rfl rfl hl.1 rfl (Nat.le_of_ble_eq_true rfl) ⟨Nat.zero_le _, Nat.zero_le _⟩ dX10_nightsToClose_38 (fun H locs hP hD hS => ?_)
      have hP : va_P D vwCl (REF T b (yS (yS y 3 0) 3 2) w) H := hP
      have hD : va_D A (REF T b (yS (yS y 3 0) 3 2) w) := hD
      refine endI (r := if inN z N then (if y 1 (34 + 7 * z.toNatClampNeg + 4) = 0 then nI (rUntil N K C z.toNatClampNeg 57 nt (lay0 y)).1 else 0) else 0) (by first | (simp [c10, c27]; done) | (rw [if_pos c10, hjc, if_neg c27]) | (rw [if_pos c10, hjc, if_pos c27]; rfl)) ?_
      have hE : (yS (yS y 3 0) 3 2) = (if inN z N then (if y 1 (34 + 7 * z.toNatClampNeg + 4) = 0 then yS (va_up y 3 (rUntil N K C z.toNatClampNeg 57 nt (lay0 y)).2) 3 0 else yS y 3 2) else yS y 3 1) := by first | (simp [yS_same, c10, c27]; done) | (rw [yS_same, if_pos c10, hjc, if_neg c27]) | (rw [if_pos c10, hjc, if_pos c27]; exact yS_up3)
      exact hret _ _ _ _ dX10_nightsToClose_41 (by rw [← hE]; exact hP) (by rw [← hE]; exact hD) hS
    ·
      have c27 := bI_n0.mp c27
      have c27 := of_decide_eq_true c27
      refine lv_aload_n hx hb dX10_nightsToClose_30 rfl (lv_at hl 0 rfl) ?_
      refine lv_iload_n hx hb dX10_nightsToClose_31 rfl (lv_at hl 1 rfl) ?_
      refine wrVi (As := [.int (nI j)]) (rest := []) ⟨hx, hb, hml, hown, hts⟩ (c_X10_closesIn l D T b (yS y 3 0) w j N K C nt hRI hj (hW j hj) hnt2 _) (cwV 1 hts gX10_nightsToClose_X10_closesIn rfl rfl rfl (by decide +kernel) ⟨Nat.le_of_ble_eq_true rfl, Nat.le_of_ble_eq_true rfl⟩) (Foc.rfl _ _) hK hP hD hS hA 0 rfl rfl rfl hl.1 rfl (Nat.le_of_ble_eq_true rfl) ⟨Nat.zero_le _, Nat.zero_le _⟩ dX10_nightsToClose_32 (fun H locs hP hD hS => ?_)
      have hP : va_P D vwCl (REF T b (va_up (yS y 3 0) 3 (rUntil N K C j 57 nt (lay0 (yS y 3 0))).2) w) H := hP
      have hD : va_D A (REF T b (va_up (yS y 3 0) 3 (rUntil N K C j 57 nt (lay0 (yS y 3 0))).2) w) := hD
      refine endI (r := if inN z N then (if y 1 (34 + 7 * z.toNatClampNeg + 4) = 0 then nI (rUntil N K C z.toNatClampNeg 57 nt (lay0 y)).1 else 0) else 0) (by first | (simp [c10, c27]; done) | (rw [if_pos c10, hjc, if_neg c27]) | (rw [if_pos c10, hjc, if_pos c27]; rfl)) ?_
      have hE : (va_up (yS y 3 0) 3 (rUntil N K C j 57 nt (lay0 (yS y 3 0))).2) = (if inN z N then (if y 1 (34 + 7 * z.toNatClampNeg + 4) = 0 then yS (va_up y 3 (rUntil N K C z.toNatClampNeg 57 nt (lay0 y)).2) 3 0 else yS y 3 2) else yS y 3 1) := by first | (simp [yS_same, c10, c27]; done) | (rw [yS_same, if_pos c10, hjc, if_neg c27]) | (rw [if_pos c10, hjc, if_pos c27]; exact yS_up3)
      exact hret _ _ _ _ dX10_nightsToClose_35 (by rw [← hE]; exact hP) (by rw [← hE]; exact hD) hS
  ·
    have c10 := bI_0.mp c10
    refine lv_aload_n hx hb dX10_nightsToClose_13 rfl (lv_at hl 0 rfl) ?_
    refine lv_iconst (v := 1) hx hb dX10_nightsToClose_14 (by decide) ?_
    refine wrVi (As := [.int (1)]) (rest := []) ⟨hx, hb, hml, hown, hts⟩ (c_X10_fails l D T b (yS y 3 0) w 1 _) (cwV 1 hts gX10_nightsToClose_X10_fails rfl rfl rfl (by decide +kernel) ⟨Nat.le_of_ble_eq_true rfl, Nat.le_of_ble_eq_true rfl⟩) (Foc.rfl _ _) hK hP hD hS hA 0 rfl rfl rfl hl.1 rfl (Nat.le_of_ble_eq_true rfl) ⟨Nat.zero_le _, Nat.zero_le _⟩ dX10_nightsToClose_15 (fun H locs hP hD hS => ?_)
    have hP : va_P D vwCl (REF T b (yS (yS y 3 0) 3 1) w) H := hP
    have hD : va_D A (REF T b (yS (yS y 3 0) 3 1) w) := hD
    refine endI (r := if inN z N then (if y 1 (34 + 7 * z.toNatClampNeg + 4) = 0 then nI (rUntil N K C z.toNatClampNeg 57 nt (lay0 y)).1 else 0) else 0) (by first | (simp [c10]; done) | (rw [if_pos c10, hjc, if_neg c27]) | (rw [if_pos c10, hjc, if_pos c27]; rfl)) ?_
    have hE : (yS (yS y 3 0) 3 1) = (if inN z N then (if y 1 (34 + 7 * z.toNatClampNeg + 4) = 0 then yS (va_up y 3 (rUntil N K C z.toNatClampNeg 57 nt (lay0 y)).2) 3 0 else yS y 3 2) else yS y 3 1) := by first | (simp [yS_same, c10]; done) | (rw [yS_same, if_pos c10, hjc, if_neg c27]) | (rw [if_pos c10, hjc, if_pos c27]; exact yS_up3)
    exact hret _ _ _ _ dX10_nightsToClose_18 (by rw [← hE]; exact hP) (by rw [← hE]; exact hD) hS

set_option maxHeartbeats 4000000 in
set_option maxRecDepth 100000 in
theorem c_X10_willBeAnswered (l : Launch) (D : va_G) (T : Nat → ClassId) (b : Nat → Nat) (y : Nat → Nat → Int32) (w : Int64) (z : Int32) (N : Nat) (K : Nat) (C : Nat) (nt : Nat) (hRI : RI (y 1) N K C nt) (hW : RWt (y 1) N nt) (hnt2 : nt < 2 ^ 17) (sz : Nat) : Met l yX10_willBeAnswered wsX10_willBeAnswered ({ frames := 9, cells := 0, slots := 0, locals := 195 } : Room) (va_Pc [.ref (b 0), .int (z)] (PS D T (REF T b y w) sz)) (va_Qi (fun r9 (_ : Unit) => r9 = (bI (inN z N && decide (y 1 (34 + 7 * z.toNatClampNeg + 4) = 0) && decide ((rUntil N K C z.toNatClampNeg 57 nt (lay0 y)).2 (34 + 7 * z.toNatClampNeg + 4) = 1)))) (fun _ t => QS D T (va_A (REF T b y w) sz) (REF T b (if inN z N then (if y 1 (34 + 7 * z.toNatClampNeg + 4) = 0 then yS (va_up y 3 (rUntil N K C z.toNatClampNeg 57 nt (lay0 y)).2) 3 0 else yS y 3 2) else yS y 3 1) w) t) (va_A (REF T b y w) sz)) 0 0 (va_A (REF T b y w) sz) := by
  refine metSi (cc := cX10_willBeAnswered) (maxL := 2) (ty := .boolean) (by decide) rfl (by exact bI_nb _) (Nat.le_of_ble_eq_true rfl) ?_
  intro p e s m args below meth c Q ls A hx hb hml hown hts hP hK hD hA hS hl hret
  have hown : s.vm.findClass RX10 = some m.cls := hown
  have hl : lv_has ls 2 [(0, .ref (b 0)), (1, .int (z))] := hl
  have i10 : ∀ w ∈ wsX100, w ∈ wsX10_willBeAnswered := by decide +kernel
  have w1 := hts (Cond.fieldLink RX10 51 "MoonComplaintWindowModel" "thrown" "I") (List.mem_of_getElem? (i := 1) rfl)
  have w2 := hts (Cond.fieldLink RX10 7 "MoonComplaintWindowModel" "now" "[I") (List.mem_of_getElem? (i := 2) rfl)
  have w3 := hts (Cond.fieldLink RX10 16 "MoonComplaintWindowModel" "spare" "[I") (List.mem_of_getElem? (i := 3) rfl)
  obtain ⟨hN, hN2, hKn, hK2, hC, hC1, hC2, hn, hnt, hSo, hSK⟩ := id hRI
  refine lv_aload_n hx hb dX10_willBeAnswered_0 rfl (lv_at hl 0 rfl) ?_
  refine lv_iconst (v := 0) hx hb dX10_willBeAnswered_1 (by decide) ?_
  refine va_put (D := D) (ci := 10) (v := .int (0)) (ty := .int) (C := RX10) (T := TX10) (N := 19) hx hb hts i10 tyX10 tyX10_ok nmX10 hown hK hP hD hS 0 rfl rfl 10 (by decide) w1 (fun _ h9 => h9) rfl (by decide +kernel) rfl rfl (Nat.le_of_ble_eq_true rfl) dX10_willBeAnswered_2 (fun H locs hP hD hS => ?_)
  have hP : va_P D vwCl (REF T b (yS y 3 0) w) H := hP
  have hD : va_D A (REF T b (yS y 3 0) w) := hD
  refine lv_aload_n hx hb dX10_willBeAnswered_5 rfl (lv_at hl 0 rfl) ?_
  refine lv_iload_n hx hb dX10_willBeAnswered_6 rfl (lv_at hl 1 rfl) ?_
  refine rdV (As := [.int (z)]) (rest := []) ⟨hx, hb, hml, hown, hts⟩ (c_X10_isComplaint l D T b (yS y 3 0) w z N hN hN2) (cwV 1 hts gX10_willBeAnswered_X10_isComplaint rfl rfl rfl (by decide +kernel) ⟨Nat.le_of_ble_eq_true rfl, Nat.le_of_ble_eq_true rfl⟩) hK hP 0 rfl rfl rfl hl.1 rfl (Nat.le_of_ble_eq_true rfl) ⟨Nat.zero_le _, Nat.zero_le _⟩ dX10_willBeAnswered_7 ?_
  refine lv_if_ne (tgt := 19) hx hb dX10_willBeAnswered_10 (by decide) (fun c10 => ?_) (fun c10 => ?_)
  ·
    have c10 := bI_n0.mp c10
    obtain ⟨j, hj, hjz, hjc⟩ := inN_t (by omega) c10
    rw [hjz] at hl
    have hl : lv_has ls 2 [(0, .ref (b 0)), (1, .int (nI j))] := hl
    refine lv_aload_n hx hb dX10_willBeAnswered_19 rfl (lv_at hl 0 rfl) ?_
    refine va_get (D := D) (ci := 10) (v := .ref (b 1)) (C := RX10) (T := TX10) (N := 19) hx hb hts i10 hown hK hP 0 rfl rfl 0 (by decide) w2 (fun _ h9 => h9) rfl dX10_willBeAnswered_20 ?_
    refine lv_iload_n hx hb dX10_willBeAnswered_23 rfl (lv_at hl 1 rfl) ?_
    refine rdS (As := [.ref (b 1), .int (nI j)]) (rest := []) ⟨hx, hb, hml, hown, hts⟩ (c_X10_waits l D T (b 1) (y 1) j (by first | omega | assumption | decide)) (va_cwS 2 hts gX10_willBeAnswered_X10_waits rfl rfl rfl (by decide +kernel) ⟨Nat.le_of_ble_eq_true rfl, Nat.le_of_ble_eq_true rfl⟩) hK (hP.sub [1] rfl) rfl hl.1 rfl (Nat.le_of_ble_eq_true rfl) ⟨Nat.zero_le _, Nat.zero_le _⟩ dX10_willBeAnswered_24 ?_
    refine lv_if_ne (tgt := 36) hx hb dX10_willBeAnswered_27 (by decide) (fun c27 => ?_) (fun c27 => ?_)
    ·
      have c27 := bI_n0.mp c27
      have c27 := of_decide_eq_true c27
      refine lv_aload_n hx hb dX10_willBeAnswered_36 rfl (lv_at hl 0 rfl) ?_
      refine lv_iload_n hx hb dX10_willBeAnswered_37 rfl (lv_at hl 1 rfl) ?_
      refine wrVi (As := [.int (nI j)]) (rest := []) ⟨hx, hb, hml, hown, hts⟩ (c_X10_closesIn l D T b (yS y 3 0) w j N K C nt hRI hj (hW j hj) hnt2 _) (cwV 1 hts gX10_willBeAnswered_X10_closesIn rfl rfl rfl (by decide +kernel) ⟨Nat.le_of_ble_eq_true rfl, Nat.le_of_ble_eq_true rfl⟩) (Foc.rfl _ _) hK hP hD hS hA 0 rfl rfl rfl hl.1 rfl (Nat.le_of_ble_eq_true rfl) ⟨Nat.zero_le _, Nat.zero_le _⟩ dX10_willBeAnswered_38 (fun H locs hP hD hS => ?_)
      have hP : va_P D vwCl (REF T b (va_up (yS y 3 0) 3 (rUntil N K C j 57 nt (lay0 (yS y 3 0))).2) w) H := hP
      have hD : va_D A (REF T b (va_up (yS y 3 0) 3 (rUntil N K C j 57 nt (lay0 (yS y 3 0))).2) w) := hD
      refine lv_pop hx hb dX10_willBeAnswered_41 rfl ?_
      refine lv_aload_n hx hb dX10_willBeAnswered_42 rfl (lv_at hl 0 rfl) ?_
      refine va_get (D := D) (ci := 10) (v := .ref (b 3)) (C := RX10) (T := TX10) (N := 19) hx hb hts i10 hown hK hP 0 rfl rfl 2 (by decide) w3 (fun _ h9 => h9) rfl dX10_willBeAnswered_43 ?_
      refine lv_iload_n hx hb dX10_willBeAnswered_46 rfl (lv_at hl 1 rfl) ?_
      refine lv_iconst (v := 4) hx hb dX10_willBeAnswered_47 (by decide) ?_
      refine rdT (As := [.int (nI j), .int (4)]) (rest := [.ref (b 3)]) ⟨hx, hb, hml, hown, hts⟩ (c_X10_complaintAt l D T j 4 ) (va_cwS 2 hts gX10_willBeAnswered_X10_complaintAt rfl rfl rfl (by decide +kernel) ⟨Nat.le_of_ble_eq_true rfl, Nat.le_of_ble_eq_true rfl⟩) rfl hl.1 rfl (Nat.le_of_ble_eq_true rfl) ⟨Nat.zero_le _, Nat.zero_le _⟩ dX10_willBeAnswered_48 ?_
      refine aldI hx hb hK hP 3 0 rfl rfl (34 + 7 * j + 4) rfl (by omega) (by decide) dX10_willBeAnswered_51 ?_
      refine lv_iconst (v := 1) hx hb dX10_willBeAnswered_52 (by decide) ?_
      refine lv_icmp_ne (tgt := 60) hx hb dX10_willBeAnswered_53 (by decide) (fun c53 => ?_) (fun c53 => ?_)
      ·
        have c53 : ¬ (rUntil N K C j 57 nt (lay0 y)).2 (34 + 7 * j + 4) = 1 := c53
        refine lv_iconst (v := 0) hx hb dX10_willBeAnswered_60 (by decide) ?_
        refine endI (r := bI (inN z N && decide (y 1 (34 + 7 * z.toNatClampNeg + 4) = 0) && decide ((rUntil N K C z.toNatClampNeg 57 nt (lay0 y)).2 (34 + 7 * z.toNatClampNeg + 4) = 1))) (by first | (simp [bI, c10, c27, c53]; done) | (simp [bI, hjc, c10, c27, c53]; done)) ?_
        have hE : (va_up (yS y 3 0) 3 (rUntil N K C j 57 nt (lay0 (yS y 3 0))).2) = (if inN z N then (if y 1 (34 + 7 * z.toNatClampNeg + 4) = 0 then yS (va_up y 3 (rUntil N K C z.toNatClampNeg 57 nt (lay0 y)).2) 3 0 else yS y 3 2) else yS y 3 1) := by first | (simp [yS_same, c10, c27, c53]; done) | (rw [yS_same, if_pos c10, hjc, if_neg c27]) | (rw [if_pos c10, hjc, if_pos c27]; exact yS_up3)
        exact hret _ _ _ _ dX10_willBeAnswered_61 (by rw [← hE]; exact hP) (by rw [← hE]; exact hD) hS
      ·
        have c53 : (rUntil N K C j 57 nt (lay0 y)).2 (34 + 7 * j + 4) = 1 := c53
        refine lv_iconst (v := 1) hx hb dX10_willBeAnswered_56 (by decide) ?_
        refine lv_goto (tgt := 61) hx hb dX10_willBeAnswered_57 (by decide) ?_
        refine endI (r := bI (inN z N && decide (y 1 (34 + 7 * z.toNatClampNeg + 4) = 0) && decide ((rUntil N K C z.toNatClampNeg 57 nt (lay0 y)).2 (34 + 7 * z.toNatClampNeg + 4) = 1))) (by first | (simp [bI, c10, c27, c53]; done) | (simp [bI, hjc, c10, c27, c53]; done)) ?_
        have hE : (va_up (yS y 3 0) 3 (rUntil N K C j 57 nt (lay0 (yS y 3 0))).2) = (if inN z N then (if y 1 (34 + 7 * z.toNatClampNeg + 4) = 0 then yS (va_up y 3 (rUntil N K C z.toNatClampNeg 57 nt (lay0 y)).2) 3 0 else yS y 3 2) else yS y 3 1) := by first | (simp [yS_same, c10, c27, c53]; done) | (rw [yS_same, if_pos c10, hjc, if_neg c27]) | (rw [if_pos c10, hjc, if_pos c27]; exact yS_up3)
        exact hret _ _ _ _ dX10_willBeAnswered_61 (by rw [← hE]; exact hP) (by rw [← hE]; exact hD) hS
    ·
      have c27 := bI_0.mp c27
      have c27 := of_decide_eq_false c27
      refine lv_aload_n hx hb dX10_willBeAnswered_30 rfl (lv_at hl 0 rfl) ?_
      refine lv_iconst (v := 2) hx hb dX10_willBeAnswered_31 (by decide) ?_
      refine wrVi (As := [.int (2)]) (rest := []) ⟨hx, hb, hml, hown, hts⟩ (c_X10_isFailed l D T b (yS y 3 0) w 2 _) (cwV 1 hts gX10_willBeAnswered_X10_isFailed rfl rfl rfl (by decide +kernel) ⟨Nat.le_of_ble_eq_true rfl, Nat.le_of_ble_eq_true rfl⟩) (Foc.rfl _ _) hK hP hD hS hA 0 rfl rfl rfl hl.1 rfl (Nat.le_of_ble_eq_true rfl) ⟨Nat.zero_le _, Nat.zero_le _⟩ dX10_willBeAnswered_32 (fun H locs hP hD hS => ?_)
      have hP : va_P D vwCl (REF T b (yS (yS y 3 0) 3 2) w) H := hP
      have hD : va_D A (REF T b (yS (yS y 3 0) 3 2) w) := hD
      refine endI (r := bI (inN z N && decide (y 1 (34 + 7 * z.toNatClampNeg + 4) = 0) && decide ((rUntil N K C z.toNatClampNeg 57 nt (lay0 y)).2 (34 + 7 * z.toNatClampNeg + 4) = 1))) (by first | (simp [bI, c10, c27]; done) | (simp [bI, hjc, c10, c27]; done)) ?_
      have hE : (yS (yS y 3 0) 3 2) = (if inN z N then (if y 1 (34 + 7 * z.toNatClampNeg + 4) = 0 then yS (va_up y 3 (rUntil N K C z.toNatClampNeg 57 nt (lay0 y)).2) 3 0 else yS y 3 2) else yS y 3 1) := by first | (simp [yS_same, c10, c27]; done) | (rw [yS_same, if_pos c10, hjc, if_neg c27]) | (rw [if_pos c10, hjc, if_pos c27]; exact yS_up3)
      exact hret _ _ _ _ dX10_willBeAnswered_35 (by rw [← hE]; exact hP) (by rw [← hE]; exact hD) hS
  ·
    have c10 := bI_0.mp c10
    refine lv_aload_n hx hb dX10_willBeAnswered_13 rfl (lv_at hl 0 rfl) ?_
    refine lv_iconst (v := 1) hx hb dX10_willBeAnswered_14 (by decide) ?_
    refine wrVi (As := [.int (1)]) (rest := []) ⟨hx, hb, hml, hown, hts⟩ (c_X10_isFailed l D T b (yS y 3 0) w 1 _) (cwV 1 hts gX10_willBeAnswered_X10_isFailed rfl rfl rfl (by decide +kernel) ⟨Nat.le_of_ble_eq_true rfl, Nat.le_of_ble_eq_true rfl⟩) (Foc.rfl _ _) hK hP hD hS hA 0 rfl rfl rfl hl.1 rfl (Nat.le_of_ble_eq_true rfl) ⟨Nat.zero_le _, Nat.zero_le _⟩ dX10_willBeAnswered_15 (fun H locs hP hD hS => ?_)
    have hP : va_P D vwCl (REF T b (yS (yS y 3 0) 3 1) w) H := hP
    have hD : va_D A (REF T b (yS (yS y 3 0) 3 1) w) := hD
    refine endI (r := bI (inN z N && decide (y 1 (34 + 7 * z.toNatClampNeg + 4) = 0) && decide ((rUntil N K C z.toNatClampNeg 57 nt (lay0 y)).2 (34 + 7 * z.toNatClampNeg + 4) = 1))) (by first | (simp [bI, c10]; done) | (simp [bI, hjc, c10]; done)) ?_
    have hE : (yS (yS y 3 0) 3 1) = (if inN z N then (if y 1 (34 + 7 * z.toNatClampNeg + 4) = 0 then yS (va_up y 3 (rUntil N K C z.toNatClampNeg 57 nt (lay0 y)).2) 3 0 else yS y 3 2) else yS y 3 1) := by first | (simp [yS_same, c10]; done) | (rw [yS_same, if_pos c10, hjc, if_neg c27]) | (rw [if_pos c10, hjc, if_pos c27]; exact yS_up3)
    exact hret _ _ _ _ dX10_willBeAnswered_18 (by rw [← hE]; exact hP) (by rw [← hE]; exact hD) hS

set_option maxHeartbeats 4000000 in
set_option maxRecDepth 100000 in
theorem c_X10_writes (l : Launch) (D : va_G) (T : Nat → ClassId) (b : Nat → Nat) (y : Nat → Nat → Int32) (w : Int64) (z : Int32) (wn : Nat) (hw : y 0 9 = nI wn) (hw2 : wn < 200) (sz : Nat) : Met l yX10_writes wsX10_writes ({ frames := 0, cells := 0, slots := 0, locals := 0 } : Room) (va_Pc [.ref (b 0), .int (z)] (PS D T (REF T b y w) sz)) (va_Qv (fun (_ : Unit) => True) (fun _ t => QS D T (va_A (REF T b y w) sz) (REF T b (yS (va_up y 8 (va_up (y 8) wn z)) 9 (nI (wn + 1))) w) t) (va_A (REF T b y w) sz)) 0 0 (va_A (REF T b y w) sz) := by
  refine metSv (cc := cX10_writes) (maxL := 2) (by decide) rfl (Nat.le_of_ble_eq_true rfl) ?_
  intro p e s m args below meth c Q ls A hx hb hml hown hts hP hK hD hA hS hl hret
  have hown : s.vm.findClass RX10 = some m.cls := hown
  have hl : lv_has ls 2 [(0, .ref (b 0)), (1, .int (z))] := hl
  have i10 : ∀ w ∈ wsX100, w ∈ wsX10_writes := by decide +kernel
  have w1 := hts (Cond.fieldLink RX10 36 "MoonComplaintWindowModel" "out" "[I") (List.mem_of_getElem? (i := 1) rfl)
  have w2 := hts (Cond.fieldLink RX10 312 "MoonComplaintWindowModel" "written" "I") (List.mem_of_getElem? (i := 2) rfl)
  refine lv_aload_n hx hb dX10_writes_0 rfl (lv_at hl 0 rfl) ?_
  refine va_get (D := D) (ci := 10) (v := .ref (b 8)) (C := RX10) (T := TX10) (N := 19) hx hb hts i10 hown hK hP 0 rfl rfl 17 (by decide) w1 (fun _ h9 => h9) rfl dX10_writes_1 ?_
  refine lv_aload_n hx hb dX10_writes_4 rfl (lv_at hl 0 rfl) ?_
  refine va_get (D := D) (ci := 10) (v := .int (y 0 9)) (C := RX10) (T := TX10) (N := 19) hx hb hts i10 hown hK hP 0 rfl rfl 18 (by decide) w2 (fun _ h9 => h9) rfl dX10_writes_5 ?_
  refine endI (r := nI wn) (hw) ?_
  refine lv_iload_n hx hb dX10_writes_8 rfl (lv_at hl 1 rfl) ?_
  refine astI hx hb hK hP hD hS 8 0 rfl rfl (wn) rfl (by omega) (by decide) dX10_writes_9 (fun H locs hP hD hS => ?_)
  have hP : va_P D vwCl (REF T b (va_up y 8 (va_up (y 8) wn z)) w) H := hP
  have hD : va_D A (REF T b (va_up y 8 (va_up (y 8) wn z)) w) := hD
  refine lv_aload_n hx hb dX10_writes_10 rfl (lv_at hl 0 rfl) ?_
  refine lv_dup hx hb dX10_writes_11 rfl ?_
  refine va_get (D := D) (ci := 10) (v := .int (y 0 9)) (C := RX10) (T := TX10) (N := 19) hx hb hts i10 hown hK hP 0 rfl rfl 18 (by decide) w2 (fun _ h9 => h9) rfl dX10_writes_12 ?_
  refine endI (r := nI wn) (hw) ?_
  refine lv_iconst (v := 1) hx hb dX10_writes_15 (by decide) ?_
  refine lv_iadd hx hb dX10_writes_16 ?_
  refine endI (r := nI (wn + 1)) (nI_add _ _) ?_
  refine va_put (D := D) (ci := 10) (v := .int (nI (wn + 1))) (ty := .int) (C := RX10) (T := TX10) (N := 19) hx hb hts i10 tyX10 tyX10_ok nmX10 hown hK hP hD hS 0 rfl rfl 18 (by decide) w2 (fun _ h9 => h9) rfl (by decide +kernel) rfl rfl (Nat.le_of_ble_eq_true rfl) dX10_writes_17 (fun H locs hP hD hS => ?_)
  have hP : va_P D vwCl (REF T b (yS (va_up y 8 (va_up (y 8) wn z)) 9 (nI (wn + 1))) w) H := hP
  have hD : va_D A (REF T b (yS (va_up y 8 (va_up (y 8) wn z)) 9 (nI (wn + 1))) w) := hD
  exact hret _ _ _ _ dX10_writes_20 hP hD hS

set_option maxHeartbeats 4000000 in
set_option maxRecDepth 100000 in
theorem c_X10_signOf (l : Launch) (D : va_G) (T : Nat → ClassId)  (q : Nat) (hq : q < 4) : Met l yX10_signOf wsX10_signOf ({ frames := 0, cells := 0, slots := 0, locals := 0 } : Room) (va_Pc [.int (nI q)] (fun _ => True)) (QcRead (sgnI q)) 0 0 (fun _ => False) := by
  refine metT (cc := cX10_signOf) (maxL := 1) (ty := .int) (by decide) rfl (by rfl) (Nat.le_of_ble_eq_true rfl) ?_
  intro p e s m args below meth c Q ls hx hb hml hown hts hl hret
  have hown : s.vm.findClass RX10 = some m.cls := hown
  have hl : lv_has ls 1 [(0, .int (nI q))] := hl
  refine lv_iload_n hx hb dX10_signOf_0 rfl (lv_at hl 0 rfl) ?_
  obtain rfl | rfl | rfl | rfl : q = 0 ∨ q = 1 ∨ q = 2 ∨ q = 3 := by omega
  ·
    refine lv_tableIn (off := 27) (tgt := 28) hx hb dX10_signOf_1 (by decide) (by decide) (by decide) (by decide) ?_
    refine lv_bipush (v := 119) hx hb dX10_signOf_28 (by decide) ?_
    refine endI (r := sgnI 0) (by rfl) ?_
    exact hret ls _ dX10_signOf_30
  ·
    refine lv_tableIn (off := 30) (tgt := 31) hx hb dX10_signOf_1 (by decide) (by decide) (by decide) (by decide) ?_
    refine lv_bipush (v := 97) hx hb dX10_signOf_31 (by decide) ?_
    refine endI (r := sgnI 1) (by rfl) ?_
    exact hret ls _ dX10_signOf_33
  ·
    refine lv_tableIn (off := 33) (tgt := 34) hx hb dX10_signOf_1 (by decide) (by decide) (by decide) (by decide) ?_
    refine lv_bipush (v := 100) hx hb dX10_signOf_34 (by decide) ?_
    refine endI (r := sgnI 2) (by rfl) ?_
    exact hret ls _ dX10_signOf_36
  ·
    refine lv_tableOut (tgt := 37) hx hb dX10_signOf_1 (by decide) (by decide) ?_
    refine lv_bipush (v := 103) hx hb dX10_signOf_37 (by decide) ?_
    refine endI (r := sgnI 3) (by rfl) ?_
    exact hret ls _ dX10_signOf_39

set_option maxHeartbeats 4000000 in
set_option maxRecDepth 100000 in
theorem c_X10_writesComplaint (l : Launch) (D : va_G) (T : Nat → ClassId) (b : Nat → Nat) (y : Nat → Nat → Int32) (w : Int64) (k : Nat) (wn : Nat) (q : Nat) (hk : k < 24) (hw : y 0 9 = nI wn) (hw2 : wn + 5 ≤ 200) (hq : q < 4) (hs : y 1 (34 + 7 * k + 4) = nI q) (sz : Nat) : Met l yX10_writesComplaint wsX10_writesComplaint ({ frames := 1, cells := 0, slots := 0, locals := 21 } : Room) (va_Pc [.ref (b 0), .int (nI k)] (PS D T (REF T b y w) sz)) (va_Qv (fun (_ : Unit) => True) (fun _ t => QS D T (va_A (REF T b y w) sz) (REF T b (yS (va_up y 8 (wLine k q (y 8, wn)).1) 9 (nI (wLine k q (y 8, wn)).2)) w) t) (va_A (REF T b y w) sz)) 0 0 (va_A (REF T b y w) sz) := by
  refine metSv (cc := cX10_writesComplaint) (maxL := 2) (by decide) rfl (Nat.le_of_ble_eq_true rfl) ?_
  intro p e s m args below meth c Q ls A hx hb hml hown hts hP hK hD hA hS hl hret
  have hown : s.vm.findClass RX10 = some m.cls := hown
  have hl : lv_has ls 2 [(0, .ref (b 0)), (1, .int (nI k))] := hl
  have i10 : ∀ w ∈ wsX100, w ∈ wsX10_writesComplaint := by decide +kernel
  have w1 := hts (Cond.fieldLink RX10 7 "MoonComplaintWindowModel" "now" "[I") (List.mem_of_getElem? (i := 1) rfl)
  refine lv_iload_n hx hb dX10_writesComplaint_0 rfl (lv_at hl 1 rfl) ?_
  refine lv_bipush (v := 9) hx hb dX10_writesComplaint_1 (by decide) ?_
  refine lv_icmp_le (tgt := 17) hx hb dX10_writesComplaint_3 (by decide) (fun c3 => ?_) (fun c3 => ?_)
  ·
    have c3 : k ≤ 9 := (nI_leI (a := k) (b := 9) (by omega) (by omega)).mp c3
    refine lv_aload_n hx hb dX10_writesComplaint_17 rfl (lv_at hl 0 rfl) ?_
    refine lv_bipush (v := 48) hx hb dX10_writesComplaint_18 (by decide) ?_
    refine lv_iload_n hx hb dX10_writesComplaint_20 rfl (lv_at hl 1 rfl) ?_
    refine lv_bipush (v := 10) hx hb dX10_writesComplaint_21 (by decide) ?_
    refine lv_irem hx hb dX10_writesComplaint_23 (by decide) ?_
    refine endI (r := nI (k % 10)) (rem10 (by omega)) ?_
    refine lv_iadd hx hb dX10_writesComplaint_24 ?_
    refine endI (r := nI (48 + (k % 10))) (nI_add _ _) ?_
    refine wrVv (As := [.int (nI (48 + (k % 10)))]) (rest := []) ⟨hx, hb, hml, hown, hts⟩ (c_X10_writes l D T b y w (nI (48 + (k % 10))) wn (by first | exact hw | rfl) (by omega) _) (cwV 1 hts gX10_writesComplaint_X10_writes rfl rfl rfl (by decide +kernel) ⟨Nat.le_of_ble_eq_true rfl, Nat.le_of_ble_eq_true rfl⟩) (Foc.rfl _ _) hK hP hD hS hA 0 rfl rfl rfl hl.1 rfl (Nat.le_of_ble_eq_true rfl) ⟨Nat.zero_le _, Nat.zero_le _⟩ dX10_writesComplaint_25 (fun H locs hP hD hS => ?_)
    have hP : va_P D vwCl (REF T b (yS (va_up y 8 (va_up (y 8) wn (nI (48 + (k % 10))))) 9 (nI (wn + 1))) w) H := hP
    have hD : va_D A (REF T b (yS (va_up y 8 (va_up (y 8) wn (nI (48 + (k % 10))))) 9 (nI (wn + 1))) w) := hD
    refine lv_aload_n hx hb dX10_writesComplaint_28 rfl (lv_at hl 0 rfl) ?_
    refine lv_bipush (v := 58) hx hb dX10_writesComplaint_29 (by decide) ?_
    refine wrVv (As := [.int (58)]) (rest := []) ⟨hx, hb, hml, hown, hts⟩ (c_X10_writes l D T b (yS (va_up y 8 (va_up (y 8) wn (nI (48 + (k % 10))))) 9 (nI (wn + 1))) w 58 (wn + 1) (by first | exact hw | rfl) (by omega) _) (cwV 1 hts gX10_writesComplaint_X10_writes rfl rfl rfl (by decide +kernel) ⟨Nat.le_of_ble_eq_true rfl, Nat.le_of_ble_eq_true rfl⟩) (Foc.rfl _ _) hK hP hD hS hA 0 rfl rfl rfl hl.1 rfl (Nat.le_of_ble_eq_true rfl) ⟨Nat.zero_le _, Nat.zero_le _⟩ dX10_writesComplaint_31 (fun H locs hP hD hS => ?_)
    have hP : va_P D vwCl (REF T b (yS (va_up (yS (va_up y 8 (va_up (y 8) wn (nI (48 + (k % 10))))) 9 (nI (wn + 1))) 8 (va_up ((yS (va_up y 8 (va_up (y 8) wn (nI (48 + (k % 10))))) 9 (nI (wn + 1))) 8) (wn + 1) 58)) 9 (nI ((wn + 1) + 1))) w) H := hP
    have hD : va_D A (REF T b (yS (va_up (yS (va_up y 8 (va_up (y 8) wn (nI (48 + (k % 10))))) 9 (nI (wn + 1))) 8 (va_up ((yS (va_up y 8 (va_up (y 8) wn (nI (48 + (k % 10))))) 9 (nI (wn + 1))) 8) (wn + 1) 58)) 9 (nI ((wn + 1) + 1))) w) := hD
    refine lv_aload_n hx hb dX10_writesComplaint_34 rfl (lv_at hl 0 rfl) ?_
    refine lv_aload_n hx hb dX10_writesComplaint_35 rfl (lv_at hl 0 rfl) ?_
    refine va_get (D := D) (ci := 10) (v := .ref (b 1)) (C := RX10) (T := TX10) (N := 19) hx hb hts i10 hown hK hP 0 rfl rfl 0 (by decide) w1 (fun _ h9 => h9) rfl dX10_writesComplaint_36 ?_
    refine lv_iload_n hx hb dX10_writesComplaint_39 rfl (lv_at hl 1 rfl) ?_
    refine lv_iconst (v := 4) hx hb dX10_writesComplaint_40 (by decide) ?_
    refine rdT (As := [.int (nI k), .int (4)]) (rest := [.ref (b 1), .ref (b 0)]) ⟨hx, hb, hml, hown, hts⟩ (c_X10_complaintAt l D T k 4 ) (va_cwS 2 hts gX10_writesComplaint_X10_complaintAt rfl rfl rfl (by decide +kernel) ⟨Nat.le_of_ble_eq_true rfl, Nat.le_of_ble_eq_true rfl⟩) rfl hl.1 rfl (Nat.le_of_ble_eq_true rfl) ⟨Nat.zero_le _, Nat.zero_le _⟩ dX10_writesComplaint_41 ?_
    refine aldI hx hb hK hP 1 0 rfl rfl (34 + 7 * k + 4) rfl (by omega) (by decide) dX10_writesComplaint_44 ?_
    refine endI (r := nI q) hs ?_
    refine rdT (As := [.int (nI q)]) (rest := [.ref (b 0)]) ⟨hx, hb, hml, hown, hts⟩ (c_X10_signOf l D T q (by first | omega | assumption | decide)) (va_cwS 1 hts gX10_writesComplaint_X10_signOf rfl rfl rfl (by decide +kernel) ⟨Nat.le_of_ble_eq_true rfl, Nat.le_of_ble_eq_true rfl⟩) rfl hl.1 rfl (Nat.le_of_ble_eq_true rfl) ⟨Nat.zero_le _, Nat.zero_le _⟩ dX10_writesComplaint_45 ?_
    refine wrVv (As := [.int (sgnI q)]) (rest := []) ⟨hx, hb, hml, hown, hts⟩ (c_X10_writes l D T b (yS (va_up (yS (va_up y 8 (va_up (y 8) wn (nI (48 + (k % 10))))) 9 (nI (wn + 1))) 8 (va_up ((yS (va_up y 8 (va_up (y 8) wn (nI (48 + (k % 10))))) 9 (nI (wn + 1))) 8) (wn + 1) 58)) 9 (nI ((wn + 1) + 1))) w (sgnI q) ((wn + 1) + 1) (by first | exact hw | rfl) (by omega) _) (cwV 1 hts gX10_writesComplaint_X10_writes rfl rfl rfl (by decide +kernel) ⟨Nat.le_of_ble_eq_true rfl, Nat.le_of_ble_eq_true rfl⟩) (Foc.rfl _ _) hK hP hD hS hA 0 rfl rfl rfl hl.1 rfl (Nat.le_of_ble_eq_true rfl) ⟨Nat.zero_le _, Nat.zero_le _⟩ dX10_writesComplaint_48 (fun H locs hP hD hS => ?_)
    have hP : va_P D vwCl (REF T b (yS (va_up (yS (va_up (yS (va_up y 8 (va_up (y 8) wn (nI (48 + (k % 10))))) 9 (nI (wn + 1))) 8 (va_up ((yS (va_up y 8 (va_up (y 8) wn (nI (48 + (k % 10))))) 9 (nI (wn + 1))) 8) (wn + 1) 58)) 9 (nI ((wn + 1) + 1))) 8 (va_up ((yS (va_up (yS (va_up y 8 (va_up (y 8) wn (nI (48 + (k % 10))))) 9 (nI (wn + 1))) 8 (va_up ((yS (va_up y 8 (va_up (y 8) wn (nI (48 + (k % 10))))) 9 (nI (wn + 1))) 8) (wn + 1) 58)) 9 (nI ((wn + 1) + 1))) 8) ((wn + 1) + 1) (sgnI q))) 9 (nI (((wn + 1) + 1) + 1))) w) H := hP
    have hD : va_D A (REF T b (yS (va_up (yS (va_up (yS (va_up y 8 (va_up (y 8) wn (nI (48 + (k % 10))))) 9 (nI (wn + 1))) 8 (va_up ((yS (va_up y 8 (va_up (y 8) wn (nI (48 + (k % 10))))) 9 (nI (wn + 1))) 8) (wn + 1) 58)) 9 (nI ((wn + 1) + 1))) 8 (va_up ((yS (va_up (yS (va_up y 8 (va_up (y 8) wn (nI (48 + (k % 10))))) 9 (nI (wn + 1))) 8 (va_up ((yS (va_up y 8 (va_up (y 8) wn (nI (48 + (k % 10))))) 9 (nI (wn + 1))) 8) (wn + 1) 58)) 9 (nI ((wn + 1) + 1))) 8) ((wn + 1) + 1) (sgnI q))) 9 (nI (((wn + 1) + 1) + 1))) w) := hD
    refine lv_aload_n hx hb dX10_writesComplaint_51 rfl (lv_at hl 0 rfl) ?_
    refine lv_bipush (v := 10) hx hb dX10_writesComplaint_52 (by decide) ?_
    refine wrVv (As := [.int (10)]) (rest := []) ⟨hx, hb, hml, hown, hts⟩ (c_X10_writes l D T b (yS (va_up (yS (va_up (yS (va_up y 8 (va_up (y 8) wn (nI (48 + (k % 10))))) 9 (nI (wn + 1))) 8 (va_up ((yS (va_up y 8 (va_up (y 8) wn (nI (48 + (k % 10))))) 9 (nI (wn + 1))) 8) (wn + 1) 58)) 9 (nI ((wn + 1) + 1))) 8 (va_up ((yS (va_up (yS (va_up y 8 (va_up (y 8) wn (nI (48 + (k % 10))))) 9 (nI (wn + 1))) 8 (va_up ((yS (va_up y 8 (va_up (y 8) wn (nI (48 + (k % 10))))) 9 (nI (wn + 1))) 8) (wn + 1) 58)) 9 (nI ((wn + 1) + 1))) 8) ((wn + 1) + 1) (sgnI q))) 9 (nI (((wn + 1) + 1) + 1))) w 10 (((wn + 1) + 1) + 1) (by first | exact hw | rfl) (by omega) _) (cwV 1 hts gX10_writesComplaint_X10_writes rfl rfl rfl (by decide +kernel) ⟨Nat.le_of_ble_eq_true rfl, Nat.le_of_ble_eq_true rfl⟩) (Foc.rfl _ _) hK hP hD hS hA 0 rfl rfl rfl hl.1 rfl (Nat.le_of_ble_eq_true rfl) ⟨Nat.zero_le _, Nat.zero_le _⟩ dX10_writesComplaint_54 (fun H locs hP hD hS => ?_)
    have hP : va_P D vwCl (REF T b (yS (va_up (yS (va_up (yS (va_up (yS (va_up y 8 (va_up (y 8) wn (nI (48 + (k % 10))))) 9 (nI (wn + 1))) 8 (va_up ((yS (va_up y 8 (va_up (y 8) wn (nI (48 + (k % 10))))) 9 (nI (wn + 1))) 8) (wn + 1) 58)) 9 (nI ((wn + 1) + 1))) 8 (va_up ((yS (va_up (yS (va_up y 8 (va_up (y 8) wn (nI (48 + (k % 10))))) 9 (nI (wn + 1))) 8 (va_up ((yS (va_up y 8 (va_up (y 8) wn (nI (48 + (k % 10))))) 9 (nI (wn + 1))) 8) (wn + 1) 58)) 9 (nI ((wn + 1) + 1))) 8) ((wn + 1) + 1) (sgnI q))) 9 (nI (((wn + 1) + 1) + 1))) 8 (va_up ((yS (va_up (yS (va_up (yS (va_up y 8 (va_up (y 8) wn (nI (48 + (k % 10))))) 9 (nI (wn + 1))) 8 (va_up ((yS (va_up y 8 (va_up (y 8) wn (nI (48 + (k % 10))))) 9 (nI (wn + 1))) 8) (wn + 1) 58)) 9 (nI ((wn + 1) + 1))) 8 (va_up ((yS (va_up (yS (va_up y 8 (va_up (y 8) wn (nI (48 + (k % 10))))) 9 (nI (wn + 1))) 8 (va_up ((yS (va_up y 8 (va_up (y 8) wn (nI (48 + (k % 10))))) 9 (nI (wn + 1))) 8) (wn + 1) 58)) 9 (nI ((wn + 1) + 1))) 8) ((wn + 1) + 1) (sgnI q))) 9 (nI (((wn + 1) + 1) + 1))) 8) (((wn + 1) + 1) + 1) 10)) 9 (nI ((((wn + 1) + 1) + 1) + 1))) w) H := hP
    have hD : va_D A (REF T b (yS (va_up (yS (va_up (yS (va_up (yS (va_up y 8 (va_up (y 8) wn (nI (48 + (k % 10))))) 9 (nI (wn + 1))) 8 (va_up ((yS (va_up y 8 (va_up (y 8) wn (nI (48 + (k % 10))))) 9 (nI (wn + 1))) 8) (wn + 1) 58)) 9 (nI ((wn + 1) + 1))) 8 (va_up ((yS (va_up (yS (va_up y 8 (va_up (y 8) wn (nI (48 + (k % 10))))) 9 (nI (wn + 1))) 8 (va_up ((yS (va_up y 8 (va_up (y 8) wn (nI (48 + (k % 10))))) 9 (nI (wn + 1))) 8) (wn + 1) 58)) 9 (nI ((wn + 1) + 1))) 8) ((wn + 1) + 1) (sgnI q))) 9 (nI (((wn + 1) + 1) + 1))) 8 (va_up ((yS (va_up (yS (va_up (yS (va_up y 8 (va_up (y 8) wn (nI (48 + (k % 10))))) 9 (nI (wn + 1))) 8 (va_up ((yS (va_up y 8 (va_up (y 8) wn (nI (48 + (k % 10))))) 9 (nI (wn + 1))) 8) (wn + 1) 58)) 9 (nI ((wn + 1) + 1))) 8 (va_up ((yS (va_up (yS (va_up y 8 (va_up (y 8) wn (nI (48 + (k % 10))))) 9 (nI (wn + 1))) 8 (va_up ((yS (va_up y 8 (va_up (y 8) wn (nI (48 + (k % 10))))) 9 (nI (wn + 1))) 8) (wn + 1) 58)) 9 (nI ((wn + 1) + 1))) 8) ((wn + 1) + 1) (sgnI q))) 9 (nI (((wn + 1) + 1) + 1))) 8) (((wn + 1) + 1) + 1) 10)) 9 (nI ((((wn + 1) + 1) + 1) + 1))) w) := hD
    have hE : (yS (va_up (yS (va_up (yS (va_up (yS (va_up y 8 (va_up (y 8) wn (nI (48 + (k % 10))))) 9 (nI (wn + 1))) 8 (va_up ((yS (va_up y 8 (va_up (y 8) wn (nI (48 + (k % 10))))) 9 (nI (wn + 1))) 8) (wn + 1) 58)) 9 (nI ((wn + 1) + 1))) 8 (va_up ((yS (va_up (yS (va_up y 8 (va_up (y 8) wn (nI (48 + (k % 10))))) 9 (nI (wn + 1))) 8 (va_up ((yS (va_up y 8 (va_up (y 8) wn (nI (48 + (k % 10))))) 9 (nI (wn + 1))) 8) (wn + 1) 58)) 9 (nI ((wn + 1) + 1))) 8) ((wn + 1) + 1) (sgnI q))) 9 (nI (((wn + 1) + 1) + 1))) 8 (va_up ((yS (va_up (yS (va_up (yS (va_up y 8 (va_up (y 8) wn (nI (48 + (k % 10))))) 9 (nI (wn + 1))) 8 (va_up ((yS (va_up y 8 (va_up (y 8) wn (nI (48 + (k % 10))))) 9 (nI (wn + 1))) 8) (wn + 1) 58)) 9 (nI ((wn + 1) + 1))) 8 (va_up ((yS (va_up (yS (va_up y 8 (va_up (y 8) wn (nI (48 + (k % 10))))) 9 (nI (wn + 1))) 8 (va_up ((yS (va_up y 8 (va_up (y 8) wn (nI (48 + (k % 10))))) 9 (nI (wn + 1))) 8) (wn + 1) 58)) 9 (nI ((wn + 1) + 1))) 8) ((wn + 1) + 1) (sgnI q))) 9 (nI (((wn + 1) + 1) + 1))) 8) (((wn + 1) + 1) + 1) 10)) 9 (nI ((((wn + 1) + 1) + 1) + 1))) = (yS (va_up y 8 (wLine k q (y 8, wn)).1) 9 (nI (wLine k q (y 8, wn)).2)) := by simp only [y8_step, y8_row]; first | (simp only [wLine, wPut, if_pos (show 9 < k from by omega)]; done) | (simp only [wLine, wPut, if_neg (show ¬ 9 < k from by omega)]; done)
    exact hret _ _ _ _ dX10_writesComplaint_57 (by rw [← hE]; exact hP) (by rw [← hE]; exact hD) hS
  ·
    have c3 : ¬ k ≤ 9 := fun h9 => c3 ((nI_leI (a := k) (b := 9) (by omega) (by omega)).mpr h9)
    refine lv_aload_n hx hb dX10_writesComplaint_6 rfl (lv_at hl 0 rfl) ?_
    refine lv_bipush (v := 48) hx hb dX10_writesComplaint_7 (by decide) ?_
    refine lv_iload_n hx hb dX10_writesComplaint_9 rfl (lv_at hl 1 rfl) ?_
    refine lv_bipush (v := 10) hx hb dX10_writesComplaint_10 (by decide) ?_
    refine lv_idiv hx hb dX10_writesComplaint_12 (by decide) ?_
    refine endI (r := nI (k / 10)) (div10 (by omega)) ?_
    refine lv_iadd hx hb dX10_writesComplaint_13 ?_
    refine endI (r := nI (48 + (k / 10))) (nI_add _ _) ?_
    refine wrVv (As := [.int (nI (48 + (k / 10)))]) (rest := []) ⟨hx, hb, hml, hown, hts⟩ (c_X10_writes l D T b y w (nI (48 + (k / 10))) wn (by first | exact hw | rfl) (by omega) _) (cwV 1 hts gX10_writesComplaint_X10_writes rfl rfl rfl (by decide +kernel) ⟨Nat.le_of_ble_eq_true rfl, Nat.le_of_ble_eq_true rfl⟩) (Foc.rfl _ _) hK hP hD hS hA 0 rfl rfl rfl hl.1 rfl (Nat.le_of_ble_eq_true rfl) ⟨Nat.zero_le _, Nat.zero_le _⟩ dX10_writesComplaint_14 (fun H locs hP hD hS => ?_)
    have hP : va_P D vwCl (REF T b (yS (va_up y 8 (va_up (y 8) wn (nI (48 + (k / 10))))) 9 (nI (wn + 1))) w) H := hP
    have hD : va_D A (REF T b (yS (va_up y 8 (va_up (y 8) wn (nI (48 + (k / 10))))) 9 (nI (wn + 1))) w) := hD
    refine lv_aload_n hx hb dX10_writesComplaint_17 rfl (lv_at hl 0 rfl) ?_
    refine lv_bipush (v := 48) hx hb dX10_writesComplaint_18 (by decide) ?_
    refine lv_iload_n hx hb dX10_writesComplaint_20 rfl (lv_at hl 1 rfl) ?_
    refine lv_bipush (v := 10) hx hb dX10_writesComplaint_21 (by decide) ?_
    refine lv_irem hx hb dX10_writesComplaint_23 (by decide) ?_
    refine endI (r := nI (k % 10)) (rem10 (by omega)) ?_
    refine lv_iadd hx hb dX10_writesComplaint_24 ?_
    refine endI (r := nI (48 + (k % 10))) (nI_add _ _) ?_
    refine wrVv (As := [.int (nI (48 + (k % 10)))]) (rest := []) ⟨hx, hb, hml, hown, hts⟩ (c_X10_writes l D T b (yS (va_up y 8 (va_up (y 8) wn (nI (48 + (k / 10))))) 9 (nI (wn + 1))) w (nI (48 + (k % 10))) (wn + 1) (by first | exact hw | rfl) (by omega) _) (cwV 1 hts gX10_writesComplaint_X10_writes rfl rfl rfl (by decide +kernel) ⟨Nat.le_of_ble_eq_true rfl, Nat.le_of_ble_eq_true rfl⟩) (Foc.rfl _ _) hK hP hD hS hA 0 rfl rfl rfl hl.1 rfl (Nat.le_of_ble_eq_true rfl) ⟨Nat.zero_le _, Nat.zero_le _⟩ dX10_writesComplaint_25 (fun H locs hP hD hS => ?_)
    have hP : va_P D vwCl (REF T b (yS (va_up (yS (va_up y 8 (va_up (y 8) wn (nI (48 + (k / 10))))) 9 (nI (wn + 1))) 8 (va_up ((yS (va_up y 8 (va_up (y 8) wn (nI (48 + (k / 10))))) 9 (nI (wn + 1))) 8) (wn + 1) (nI (48 + (k % 10))))) 9 (nI ((wn + 1) + 1))) w) H := hP
    have hD : va_D A (REF T b (yS (va_up (yS (va_up y 8 (va_up (y 8) wn (nI (48 + (k / 10))))) 9 (nI (wn + 1))) 8 (va_up ((yS (va_up y 8 (va_up (y 8) wn (nI (48 + (k / 10))))) 9 (nI (wn + 1))) 8) (wn + 1) (nI (48 + (k % 10))))) 9 (nI ((wn + 1) + 1))) w) := hD
    refine lv_aload_n hx hb dX10_writesComplaint_28 rfl (lv_at hl 0 rfl) ?_
    refine lv_bipush (v := 58) hx hb dX10_writesComplaint_29 (by decide) ?_
    refine wrVv (As := [.int (58)]) (rest := []) ⟨hx, hb, hml, hown, hts⟩ (c_X10_writes l D T b (yS (va_up (yS (va_up y 8 (va_up (y 8) wn (nI (48 + (k / 10))))) 9 (nI (wn + 1))) 8 (va_up ((yS (va_up y 8 (va_up (y 8) wn (nI (48 + (k / 10))))) 9 (nI (wn + 1))) 8) (wn + 1) (nI (48 + (k % 10))))) 9 (nI ((wn + 1) + 1))) w 58 ((wn + 1) + 1) (by first | exact hw | rfl) (by omega) _) (cwV 1 hts gX10_writesComplaint_X10_writes rfl rfl rfl (by decide +kernel) ⟨Nat.le_of_ble_eq_true rfl, Nat.le_of_ble_eq_true rfl⟩) (Foc.rfl _ _) hK hP hD hS hA 0 rfl rfl rfl hl.1 rfl (Nat.le_of_ble_eq_true rfl) ⟨Nat.zero_le _, Nat.zero_le _⟩ dX10_writesComplaint_31 (fun H locs hP hD hS => ?_)
    have hP : va_P D vwCl (REF T b (yS (va_up (yS (va_up (yS (va_up y 8 (va_up (y 8) wn (nI (48 + (k / 10))))) 9 (nI (wn + 1))) 8 (va_up ((yS (va_up y 8 (va_up (y 8) wn (nI (48 + (k / 10))))) 9 (nI (wn + 1))) 8) (wn + 1) (nI (48 + (k % 10))))) 9 (nI ((wn + 1) + 1))) 8 (va_up ((yS (va_up (yS (va_up y 8 (va_up (y 8) wn (nI (48 + (k / 10))))) 9 (nI (wn + 1))) 8 (va_up ((yS (va_up y 8 (va_up (y 8) wn (nI (48 + (k / 10))))) 9 (nI (wn + 1))) 8) (wn + 1) (nI (48 + (k % 10))))) 9 (nI ((wn + 1) + 1))) 8) ((wn + 1) + 1) 58)) 9 (nI (((wn + 1) + 1) + 1))) w) H := hP
    have hD : va_D A (REF T b (yS (va_up (yS (va_up (yS (va_up y 8 (va_up (y 8) wn (nI (48 + (k / 10))))) 9 (nI (wn + 1))) 8 (va_up ((yS (va_up y 8 (va_up (y 8) wn (nI (48 + (k / 10))))) 9 (nI (wn + 1))) 8) (wn + 1) (nI (48 + (k % 10))))) 9 (nI ((wn + 1) + 1))) 8 (va_up ((yS (va_up (yS (va_up y 8 (va_up (y 8) wn (nI (48 + (k / 10))))) 9 (nI (wn + 1))) 8 (va_up ((yS (va_up y 8 (va_up (y 8) wn (nI (48 + (k / 10))))) 9 (nI (wn + 1))) 8) (wn + 1) (nI (48 + (k % 10))))) 9 (nI ((wn + 1) + 1))) 8) ((wn + 1) + 1) 58)) 9 (nI (((wn + 1) + 1) + 1))) w) := hD
    refine lv_aload_n hx hb dX10_writesComplaint_34 rfl (lv_at hl 0 rfl) ?_
    refine lv_aload_n hx hb dX10_writesComplaint_35 rfl (lv_at hl 0 rfl) ?_
    refine va_get (D := D) (ci := 10) (v := .ref (b 1)) (C := RX10) (T := TX10) (N := 19) hx hb hts i10 hown hK hP 0 rfl rfl 0 (by decide) w1 (fun _ h9 => h9) rfl dX10_writesComplaint_36 ?_
    refine lv_iload_n hx hb dX10_writesComplaint_39 rfl (lv_at hl 1 rfl) ?_
    refine lv_iconst (v := 4) hx hb dX10_writesComplaint_40 (by decide) ?_
    refine rdT (As := [.int (nI k), .int (4)]) (rest := [.ref (b 1), .ref (b 0)]) ⟨hx, hb, hml, hown, hts⟩ (c_X10_complaintAt l D T k 4 ) (va_cwS 2 hts gX10_writesComplaint_X10_complaintAt rfl rfl rfl (by decide +kernel) ⟨Nat.le_of_ble_eq_true rfl, Nat.le_of_ble_eq_true rfl⟩) rfl hl.1 rfl (Nat.le_of_ble_eq_true rfl) ⟨Nat.zero_le _, Nat.zero_le _⟩ dX10_writesComplaint_41 ?_
    refine aldI hx hb hK hP 1 0 rfl rfl (34 + 7 * k + 4) rfl (by omega) (by decide) dX10_writesComplaint_44 ?_
    refine endI (r := nI q) hs ?_
    refine rdT (As := [.int (nI q)]) (rest := [.ref (b 0)]) ⟨hx, hb, hml, hown, hts⟩ (c_X10_signOf l D T q (by first | omega | assumption | decide)) (va_cwS 1 hts gX10_writesComplaint_X10_signOf rfl rfl rfl (by decide +kernel) ⟨Nat.le_of_ble_eq_true rfl, Nat.le_of_ble_eq_true rfl⟩) rfl hl.1 rfl (Nat.le_of_ble_eq_true rfl) ⟨Nat.zero_le _, Nat.zero_le _⟩ dX10_writesComplaint_45 ?_
    refine wrVv (As := [.int (sgnI q)]) (rest := []) ⟨hx, hb, hml, hown, hts⟩ (c_X10_writes l D T b (yS (va_up (yS (va_up (yS (va_up y 8 (va_up (y 8) wn (nI (48 + (k / 10))))) 9 (nI (wn + 1))) 8 (va_up ((yS (va_up y 8 (va_up (y 8) wn (nI (48 + (k / 10))))) 9 (nI (wn + 1))) 8) (wn + 1) (nI (48 + (k % 10))))) 9 (nI ((wn + 1) + 1))) 8 (va_up ((yS (va_up (yS (va_up y 8 (va_up (y 8) wn (nI (48 + (k / 10))))) 9 (nI (wn + 1))) 8 (va_up ((yS (va_up y 8 (va_up (y 8) wn (nI (48 + (k / 10))))) 9 (nI (wn + 1))) 8) (wn + 1) (nI (48 + (k % 10))))) 9 (nI ((wn + 1) + 1))) 8) ((wn + 1) + 1) 58)) 9 (nI (((wn + 1) + 1) + 1))) w (sgnI q) (((wn + 1) + 1) + 1) (by first | exact hw | rfl) (by omega) _) (cwV 1 hts gX10_writesComplaint_X10_writes rfl rfl rfl (by decide +kernel) ⟨Nat.le_of_ble_eq_true rfl, Nat.le_of_ble_eq_true rfl⟩) (Foc.rfl _ _) hK hP hD hS hA 0 rfl rfl rfl hl.1 rfl (Nat.le_of_ble_eq_true rfl) ⟨Nat.zero_le _, Nat.zero_le _⟩ dX10_writesComplaint_48 (fun H locs hP hD hS => ?_)
    have hP : va_P D vwCl (REF T b (yS (va_up (yS (va_up (yS (va_up (yS (va_up y 8 (va_up (y 8) wn (nI (48 + (k / 10))))) 9 (nI (wn + 1))) 8 (va_up ((yS (va_up y 8 (va_up (y 8) wn (nI (48 + (k / 10))))) 9 (nI (wn + 1))) 8) (wn + 1) (nI (48 + (k % 10))))) 9 (nI ((wn + 1) + 1))) 8 (va_up ((yS (va_up (yS (va_up y 8 (va_up (y 8) wn (nI (48 + (k / 10))))) 9 (nI (wn + 1))) 8 (va_up ((yS (va_up y 8 (va_up (y 8) wn (nI (48 + (k / 10))))) 9 (nI (wn + 1))) 8) (wn + 1) (nI (48 + (k % 10))))) 9 (nI ((wn + 1) + 1))) 8) ((wn + 1) + 1) 58)) 9 (nI (((wn + 1) + 1) + 1))) 8 (va_up ((yS (va_up (yS (va_up (yS (va_up y 8 (va_up (y 8) wn (nI (48 + (k / 10))))) 9 (nI (wn + 1))) 8 (va_up ((yS (va_up y 8 (va_up (y 8) wn (nI (48 + (k / 10))))) 9 (nI (wn + 1))) 8) (wn + 1) (nI (48 + (k % 10))))) 9 (nI ((wn + 1) + 1))) 8 (va_up ((yS (va_up (yS (va_up y 8 (va_up (y 8) wn (nI (48 + (k / 10))))) 9 (nI (wn + 1))) 8 (va_up ((yS (va_up y 8 (va_up (y 8) wn (nI (48 + (k / 10))))) 9 (nI (wn + 1))) 8) (wn + 1) (nI (48 + (k % 10))))) 9 (nI ((wn + 1) + 1))) 8) ((wn + 1) + 1) 58)) 9 (nI (((wn + 1) + 1) + 1))) 8) (((wn + 1) + 1) + 1) (sgnI q))) 9 (nI ((((wn + 1) + 1) + 1) + 1))) w) H := hP
    have hD : va_D A (REF T b (yS (va_up (yS (va_up (yS (va_up (yS (va_up y 8 (va_up (y 8) wn (nI (48 + (k / 10))))) 9 (nI (wn + 1))) 8 (va_up ((yS (va_up y 8 (va_up (y 8) wn (nI (48 + (k / 10))))) 9 (nI (wn + 1))) 8) (wn + 1) (nI (48 + (k % 10))))) 9 (nI ((wn + 1) + 1))) 8 (va_up ((yS (va_up (yS (va_up y 8 (va_up (y 8) wn (nI (48 + (k / 10))))) 9 (nI (wn + 1))) 8 (va_up ((yS (va_up y 8 (va_up (y 8) wn (nI (48 + (k / 10))))) 9 (nI (wn + 1))) 8) (wn + 1) (nI (48 + (k % 10))))) 9 (nI ((wn + 1) + 1))) 8) ((wn + 1) + 1) 58)) 9 (nI (((wn + 1) + 1) + 1))) 8 (va_up ((yS (va_up (yS (va_up (yS (va_up y 8 (va_up (y 8) wn (nI (48 + (k / 10))))) 9 (nI (wn + 1))) 8 (va_up ((yS (va_up y 8 (va_up (y 8) wn (nI (48 + (k / 10))))) 9 (nI (wn + 1))) 8) (wn + 1) (nI (48 + (k % 10))))) 9 (nI ((wn + 1) + 1))) 8 (va_up ((yS (va_up (yS (va_up y 8 (va_up (y 8) wn (nI (48 + (k / 10))))) 9 (nI (wn + 1))) 8 (va_up ((yS (va_up y 8 (va_up (y 8) wn (nI (48 + (k / 10))))) 9 (nI (wn + 1))) 8) (wn + 1) (nI (48 + (k % 10))))) 9 (nI ((wn + 1) + 1))) 8) ((wn + 1) + 1) 58)) 9 (nI (((wn + 1) + 1) + 1))) 8) (((wn + 1) + 1) + 1) (sgnI q))) 9 (nI ((((wn + 1) + 1) + 1) + 1))) w) := hD
    refine lv_aload_n hx hb dX10_writesComplaint_51 rfl (lv_at hl 0 rfl) ?_
    refine lv_bipush (v := 10) hx hb dX10_writesComplaint_52 (by decide) ?_
    refine wrVv (As := [.int (10)]) (rest := []) ⟨hx, hb, hml, hown, hts⟩ (c_X10_writes l D T b (yS (va_up (yS (va_up (yS (va_up (yS (va_up y 8 (va_up (y 8) wn (nI (48 + (k / 10))))) 9 (nI (wn + 1))) 8 (va_up ((yS (va_up y 8 (va_up (y 8) wn (nI (48 + (k / 10))))) 9 (nI (wn + 1))) 8) (wn + 1) (nI (48 + (k % 10))))) 9 (nI ((wn + 1) + 1))) 8 (va_up ((yS (va_up (yS (va_up y 8 (va_up (y 8) wn (nI (48 + (k / 10))))) 9 (nI (wn + 1))) 8 (va_up ((yS (va_up y 8 (va_up (y 8) wn (nI (48 + (k / 10))))) 9 (nI (wn + 1))) 8) (wn + 1) (nI (48 + (k % 10))))) 9 (nI ((wn + 1) + 1))) 8) ((wn + 1) + 1) 58)) 9 (nI (((wn + 1) + 1) + 1))) 8 (va_up ((yS (va_up (yS (va_up (yS (va_up y 8 (va_up (y 8) wn (nI (48 + (k / 10))))) 9 (nI (wn + 1))) 8 (va_up ((yS (va_up y 8 (va_up (y 8) wn (nI (48 + (k / 10))))) 9 (nI (wn + 1))) 8) (wn + 1) (nI (48 + (k % 10))))) 9 (nI ((wn + 1) + 1))) 8 (va_up ((yS (va_up (yS (va_up y 8 (va_up (y 8) wn (nI (48 + (k / 10))))) 9 (nI (wn + 1))) 8 (va_up ((yS (va_up y 8 (va_up (y 8) wn (nI (48 + (k / 10))))) 9 (nI (wn + 1))) 8) (wn + 1) (nI (48 + (k % 10))))) 9 (nI ((wn + 1) + 1))) 8) ((wn + 1) + 1) 58)) 9 (nI (((wn + 1) + 1) + 1))) 8) (((wn + 1) + 1) + 1) (sgnI q))) 9 (nI ((((wn + 1) + 1) + 1) + 1))) w 10 ((((wn + 1) + 1) + 1) + 1) (by first | exact hw | rfl) (by omega) _) (cwV 1 hts gX10_writesComplaint_X10_writes rfl rfl rfl (by decide +kernel) ⟨Nat.le_of_ble_eq_true rfl, Nat.le_of_ble_eq_true rfl⟩) (Foc.rfl _ _) hK hP hD hS hA 0 rfl rfl rfl hl.1 rfl (Nat.le_of_ble_eq_true rfl) ⟨Nat.zero_le _, Nat.zero_le _⟩ dX10_writesComplaint_54 (fun H locs hP hD hS => ?_)
    have hP : va_P D vwCl (REF T b (yS (va_up (yS (va_up (yS (va_up (yS (va_up (yS (va_up y 8 (va_up (y 8) wn (nI (48 + (k / 10))))) 9 (nI (wn + 1))) 8 (va_up ((yS (va_up y 8 (va_up (y 8) wn (nI (48 + (k / 10))))) 9 (nI (wn + 1))) 8) (wn + 1) (nI (48 + (k % 10))))) 9 (nI ((wn + 1) + 1))) 8 (va_up ((yS (va_up (yS (va_up y 8 (va_up (y 8) wn (nI (48 + (k / 10))))) 9 (nI (wn + 1))) 8 (va_up ((yS (va_up y 8 (va_up (y 8) wn (nI (48 + (k / 10))))) 9 (nI (wn + 1))) 8) (wn + 1) (nI (48 + (k % 10))))) 9 (nI ((wn + 1) + 1))) 8) ((wn + 1) + 1) 58)) 9 (nI (((wn + 1) + 1) + 1))) 8 (va_up ((yS (va_up (yS (va_up (yS (va_up y 8 (va_up (y 8) wn (nI (48 + (k / 10))))) 9 (nI (wn + 1))) 8 (va_up ((yS (va_up y 8 (va_up (y 8) wn (nI (48 + (k / 10))))) 9 (nI (wn + 1))) 8) (wn + 1) (nI (48 + (k % 10))))) 9 (nI ((wn + 1) + 1))) 8 (va_up ((yS (va_up (yS (va_up y 8 (va_up (y 8) wn (nI (48 + (k / 10))))) 9 (nI (wn + 1))) 8 (va_up ((yS (va_up y 8 (va_up (y 8) wn (nI (48 + (k / 10))))) 9 (nI (wn + 1))) 8) (wn + 1) (nI (48 + (k % 10))))) 9 (nI ((wn + 1) + 1))) 8) ((wn + 1) + 1) 58)) 9 (nI (((wn + 1) + 1) + 1))) 8) (((wn + 1) + 1) + 1) (sgnI q))) 9 (nI ((((wn + 1) + 1) + 1) + 1))) 8 (va_up ((yS (va_up (yS (va_up (yS (va_up (yS (va_up y 8 (va_up (y 8) wn (nI (48 + (k / 10))))) 9 (nI (wn + 1))) 8 (va_up ((yS (va_up y 8 (va_up (y 8) wn (nI (48 + (k / 10))))) 9 (nI (wn + 1))) 8) (wn + 1) (nI (48 + (k % 10))))) 9 (nI ((wn + 1) + 1))) 8 (va_up ((yS (va_up (yS (va_up y 8 (va_up (y 8) wn (nI (48 + (k / 10))))) 9 (nI (wn + 1))) 8 (va_up ((yS (va_up y 8 (va_up (y 8) wn (nI (48 + (k / 10))))) 9 (nI (wn + 1))) 8) (wn + 1) (nI (48 + (k % 10))))) 9 (nI ((wn + 1) + 1))) 8) ((wn + 1) + 1) 58)) 9 (nI (((wn + 1) + 1) + 1))) 8 (va_up ((yS (va_up (yS (va_up (yS (va_up y 8 (va_up (y 8) wn (nI (48 + (k / 10))))) 9 (nI (wn + 1))) 8 (va_up ((yS (va_up y 8 (va_up (y 8) wn (nI (48 + (k / 10))))) 9 (nI (wn + 1))) 8) (wn + 1) (nI (48 + (k % 10))))) 9 (nI ((wn + 1) + 1))) 8 (va_up ((yS (va_up (yS (va_up y 8 (va_up (y 8) wn (nI (48 + (k / 10))))) 9 (nI (wn + 1))) 8 (va_up ((yS (va_up y 8 (va_up (y 8) wn (nI (48 + (k / 10))))) 9 (nI (wn + 1))) 8) (wn + 1) (nI (48 + (k % 10))))) 9 (nI ((wn + 1) + 1))) 8) ((wn + 1) + 1) 58)) 9 (nI (((wn + 1) + 1) + 1))) 8) (((wn + 1) + 1) + 1) (sgnI q))) 9 (nI ((((wn + 1) + 1) + 1) + 1))) 8) ((((wn + 1) + 1) + 1) + 1) 10)) 9 (nI (((((wn + 1) + 1) + 1) + 1) + 1))) w) H := hP
    have hD : va_D A (REF T b (yS (va_up (yS (va_up (yS (va_up (yS (va_up (yS (va_up y 8 (va_up (y 8) wn (nI (48 + (k / 10))))) 9 (nI (wn + 1))) 8 (va_up ((yS (va_up y 8 (va_up (y 8) wn (nI (48 + (k / 10))))) 9 (nI (wn + 1))) 8) (wn + 1) (nI (48 + (k % 10))))) 9 (nI ((wn + 1) + 1))) 8 (va_up ((yS (va_up (yS (va_up y 8 (va_up (y 8) wn (nI (48 + (k / 10))))) 9 (nI (wn + 1))) 8 (va_up ((yS (va_up y 8 (va_up (y 8) wn (nI (48 + (k / 10))))) 9 (nI (wn + 1))) 8) (wn + 1) (nI (48 + (k % 10))))) 9 (nI ((wn + 1) + 1))) 8) ((wn + 1) + 1) 58)) 9 (nI (((wn + 1) + 1) + 1))) 8 (va_up ((yS (va_up (yS (va_up (yS (va_up y 8 (va_up (y 8) wn (nI (48 + (k / 10))))) 9 (nI (wn + 1))) 8 (va_up ((yS (va_up y 8 (va_up (y 8) wn (nI (48 + (k / 10))))) 9 (nI (wn + 1))) 8) (wn + 1) (nI (48 + (k % 10))))) 9 (nI ((wn + 1) + 1))) 8 (va_up ((yS (va_up (yS (va_up y 8 (va_up (y 8) wn (nI (48 + (k / 10))))) 9 (nI (wn + 1))) 8 (va_up ((yS (va_up y 8 (va_up (y 8) wn (nI (48 + (k / 10))))) 9 (nI (wn + 1))) 8) (wn + 1) (nI (48 + (k % 10))))) 9 (nI ((wn + 1) + 1))) 8) ((wn + 1) + 1) 58)) 9 (nI (((wn + 1) + 1) + 1))) 8) (((wn + 1) + 1) + 1) (sgnI q))) 9 (nI ((((wn + 1) + 1) + 1) + 1))) 8 (va_up ((yS (va_up (yS (va_up (yS (va_up (yS (va_up y 8 (va_up (y 8) wn (nI (48 + (k / 10))))) 9 (nI (wn + 1))) 8 (va_up ((yS (va_up y 8 (va_up (y 8) wn (nI (48 + (k / 10))))) 9 (nI (wn + 1))) 8) (wn + 1) (nI (48 + (k % 10))))) 9 (nI ((wn + 1) + 1))) 8 (va_up ((yS (va_up (yS (va_up y 8 (va_up (y 8) wn (nI (48 + (k / 10))))) 9 (nI (wn + 1))) 8 (va_up ((yS (va_up y 8 (va_up (y 8) wn (nI (48 + (k / 10))))) 9 (nI (wn + 1))) 8) (wn + 1) (nI (48 + (k % 10))))) 9 (nI ((wn + 1) + 1))) 8) ((wn + 1) + 1) 58)) 9 (nI (((wn + 1) + 1) + 1))) 8 (va_up ((yS (va_up (yS (va_up (yS (va_up y 8 (va_up (y 8) wn (nI (48 + (k / 10))))) 9 (nI (wn + 1))) 8 (va_up ((yS (va_up y 8 (va_up (y 8) wn (nI (48 + (k / 10))))) 9 (nI (wn + 1))) 8) (wn + 1) (nI (48 + (k % 10))))) 9 (nI ((wn + 1) + 1))) 8 (va_up ((yS (va_up (yS (va_up y 8 (va_up (y 8) wn (nI (48 + (k / 10))))) 9 (nI (wn + 1))) 8 (va_up ((yS (va_up y 8 (va_up (y 8) wn (nI (48 + (k / 10))))) 9 (nI (wn + 1))) 8) (wn + 1) (nI (48 + (k % 10))))) 9 (nI ((wn + 1) + 1))) 8) ((wn + 1) + 1) 58)) 9 (nI (((wn + 1) + 1) + 1))) 8) (((wn + 1) + 1) + 1) (sgnI q))) 9 (nI ((((wn + 1) + 1) + 1) + 1))) 8) ((((wn + 1) + 1) + 1) + 1) 10)) 9 (nI (((((wn + 1) + 1) + 1) + 1) + 1))) w) := hD
    have hE : (yS (va_up (yS (va_up (yS (va_up (yS (va_up (yS (va_up y 8 (va_up (y 8) wn (nI (48 + (k / 10))))) 9 (nI (wn + 1))) 8 (va_up ((yS (va_up y 8 (va_up (y 8) wn (nI (48 + (k / 10))))) 9 (nI (wn + 1))) 8) (wn + 1) (nI (48 + (k % 10))))) 9 (nI ((wn + 1) + 1))) 8 (va_up ((yS (va_up (yS (va_up y 8 (va_up (y 8) wn (nI (48 + (k / 10))))) 9 (nI (wn + 1))) 8 (va_up ((yS (va_up y 8 (va_up (y 8) wn (nI (48 + (k / 10))))) 9 (nI (wn + 1))) 8) (wn + 1) (nI (48 + (k % 10))))) 9 (nI ((wn + 1) + 1))) 8) ((wn + 1) + 1) 58)) 9 (nI (((wn + 1) + 1) + 1))) 8 (va_up ((yS (va_up (yS (va_up (yS (va_up y 8 (va_up (y 8) wn (nI (48 + (k / 10))))) 9 (nI (wn + 1))) 8 (va_up ((yS (va_up y 8 (va_up (y 8) wn (nI (48 + (k / 10))))) 9 (nI (wn + 1))) 8) (wn + 1) (nI (48 + (k % 10))))) 9 (nI ((wn + 1) + 1))) 8 (va_up ((yS (va_up (yS (va_up y 8 (va_up (y 8) wn (nI (48 + (k / 10))))) 9 (nI (wn + 1))) 8 (va_up ((yS (va_up y 8 (va_up (y 8) wn (nI (48 + (k / 10))))) 9 (nI (wn + 1))) 8) (wn + 1) (nI (48 + (k % 10))))) 9 (nI ((wn + 1) + 1))) 8) ((wn + 1) + 1) 58)) 9 (nI (((wn + 1) + 1) + 1))) 8) (((wn + 1) + 1) + 1) (sgnI q))) 9 (nI ((((wn + 1) + 1) + 1) + 1))) 8 (va_up ((yS (va_up (yS (va_up (yS (va_up (yS (va_up y 8 (va_up (y 8) wn (nI (48 + (k / 10))))) 9 (nI (wn + 1))) 8 (va_up ((yS (va_up y 8 (va_up (y 8) wn (nI (48 + (k / 10))))) 9 (nI (wn + 1))) 8) (wn + 1) (nI (48 + (k % 10))))) 9 (nI ((wn + 1) + 1))) 8 (va_up ((yS (va_up (yS (va_up y 8 (va_up (y 8) wn (nI (48 + (k / 10))))) 9 (nI (wn + 1))) 8 (va_up ((yS (va_up y 8 (va_up (y 8) wn (nI (48 + (k / 10))))) 9 (nI (wn + 1))) 8) (wn + 1) (nI (48 + (k % 10))))) 9 (nI ((wn + 1) + 1))) 8) ((wn + 1) + 1) 58)) 9 (nI (((wn + 1) + 1) + 1))) 8 (va_up ((yS (va_up (yS (va_up (yS (va_up y 8 (va_up (y 8) wn (nI (48 + (k / 10))))) 9 (nI (wn + 1))) 8 (va_up ((yS (va_up y 8 (va_up (y 8) wn (nI (48 + (k / 10))))) 9 (nI (wn + 1))) 8) (wn + 1) (nI (48 + (k % 10))))) 9 (nI ((wn + 1) + 1))) 8 (va_up ((yS (va_up (yS (va_up y 8 (va_up (y 8) wn (nI (48 + (k / 10))))) 9 (nI (wn + 1))) 8 (va_up ((yS (va_up y 8 (va_up (y 8) wn (nI (48 + (k / 10))))) 9 (nI (wn + 1))) 8) (wn + 1) (nI (48 + (k % 10))))) 9 (nI ((wn + 1) + 1))) 8) ((wn + 1) + 1) 58)) 9 (nI (((wn + 1) + 1) + 1))) 8) (((wn + 1) + 1) + 1) (sgnI q))) 9 (nI ((((wn + 1) + 1) + 1) + 1))) 8) ((((wn + 1) + 1) + 1) + 1) 10)) 9 (nI (((((wn + 1) + 1) + 1) + 1) + 1))) = (yS (va_up y 8 (wLine k q (y 8, wn)).1) 9 (nI (wLine k q (y 8, wn)).2)) := by simp only [y8_step, y8_row]; first | (simp only [wLine, wPut, if_pos (show 9 < k from by omega)]; done) | (simp only [wLine, wPut, if_neg (show ¬ 9 < k from by omega)]; done)
    exact hret _ _ _ _ dX10_writesComplaint_57 (by rw [← hE]; exact hP) (by rw [← hE]; exact hD) hS

set_option maxHeartbeats 4000000 in
set_option maxRecDepth 100000 in
theorem c_X10_writeComplaints (l : Launch) (D : va_G) (T : Nat → ClassId) (b : Nat → Nat) (y : Nat → Nat → Int32) (w : Int64) (z : Int32) (N : Nat) (K : Nat) (C : Nat) (nt : Nat) (hRI : RI (y 1) N K C nt) (hSt : ∀ k, k < N → ∃ q, q < 4 ∧ y 1 (34 + 7 * k + 4) = nI q) (sz : Nat) : Met l yX10_writeComplaints wsX10_writeComplaints ({ frames := 2, cells := 0, slots := 0, locals := 42 } : Room) (va_Pc [.ref (b 0), .int (z)] (PS D T (REF T b y w) sz)) (va_Qi (fun r9 (_ : Unit) => r9 = (if rg z 0 99 then nI (iter (wStepR (y 1) z) N 0 (y 8, 0)).2 else 0)) (fun _ t => QS D T (va_A (REF T b y w) sz) (REF T b (if rg z 0 99 then yS (yS (va_up y 8 (iter (wStepR (y 1) z) N 0 (y 8, 0)).1) 3 0) 9 (nI (iter (wStepR (y 1) z) N 0 (y 8, 0)).2) else yS y 3 1) w) t) (va_A (REF T b y w) sz)) 0 0 (va_A (REF T b y w) sz) := by
  refine metSi (cc := cX10_writeComplaints) (maxL := 3) (ty := .int) (by decide) rfl (by rfl) (Nat.le_of_ble_eq_true rfl) ?_
  intro p e s m args below meth c Q ls A hx hb hml hown hts hP hK hD hA hS hl hret
  have hown : s.vm.findClass RX10 = some m.cls := hown
  have hl : lv_has ls 3 [(0, .ref (b 0)), (1, .int (z))] := hl
  have i10 : ∀ w ∈ wsX100, w ∈ wsX10_writeComplaints := by decide +kernel
  have w1 := hts (Cond.fieldLink RX10 51 "MoonComplaintWindowModel" "thrown" "I") (List.mem_of_getElem? (i := 1) rfl)
  have w2 := hts (Cond.fieldLink RX10 312 "MoonComplaintWindowModel" "written" "I") (List.mem_of_getElem? (i := 2) rfl)
  have w3 := hts (Cond.fieldLink RX10 7 "MoonComplaintWindowModel" "now" "[I") (List.mem_of_getElem? (i := 3) rfl)
  obtain ⟨hN, hN2, hKn, hK2, hC, hC1, hC2, hn, hnt, hSo, hSK⟩ := id hRI
  refine lv_aload_n hx hb dX10_writeComplaints_0 rfl (lv_at hl 0 rfl) ?_
  refine lv_iconst (v := 0) hx hb dX10_writeComplaints_1 (by decide) ?_
  refine va_put (D := D) (ci := 10) (v := .int (0)) (ty := .int) (C := RX10) (T := TX10) (N := 19) hx hb hts i10 tyX10 tyX10_ok nmX10 hown hK hP hD hS 0 rfl rfl 10 (by decide) w1 (fun _ h9 => h9) rfl (by decide +kernel) rfl rfl (Nat.le_of_ble_eq_true rfl) dX10_writeComplaints_2 (fun H locs hP hD hS => ?_)
  have hP : va_P D vwCl (REF T b (yS y 3 0) w) H := hP
  have hD : va_D A (REF T b (yS y 3 0) w) := hD
  refine lv_iload_n hx hb dX10_writeComplaints_5 rfl (lv_at hl 1 rfl) ?_
  refine rdT (As := [.int (z)]) (rest := []) ⟨hx, hb, hml, hown, hts⟩ (c_X10_isPerson l D T z ) (va_cwS 1 hts gX10_writeComplaints_X10_isPerson rfl rfl rfl (by decide +kernel) ⟨Nat.le_of_ble_eq_true rfl, Nat.le_of_ble_eq_true rfl⟩) rfl hl.1 rfl (Nat.le_of_ble_eq_true rfl) ⟨Nat.zero_le _, Nat.zero_le _⟩ dX10_writeComplaints_6 ?_
  refine lv_if_ne (tgt := 18) hx hb dX10_writeComplaints_9 (by decide) (fun c9 => ?_) (fun c9 => ?_)
  ·
    have c9 := bI_n0.mp c9
    refine lv_aload_n hx hb dX10_writeComplaints_18 rfl (lv_at hl 0 rfl) ?_
    refine lv_iconst (v := 0) hx hb dX10_writeComplaints_19 (by decide) ?_
    refine va_put (D := D) (ci := 10) (v := .int (0)) (ty := .int) (C := RX10) (T := TX10) (N := 19) hx hb hts i10 tyX10 tyX10_ok nmX10 hown hK hP hD hS 0 rfl rfl 18 (by decide) w2 (fun _ h9 => h9) rfl (by decide +kernel) rfl rfl (Nat.le_of_ble_eq_true rfl) dX10_writeComplaints_20 (fun H locs hP hD hS => ?_)
    have hP : va_P D vwCl (REF T b (yS (yS y 3 0) 9 0) w) H := hP
    have hD : va_D A (REF T b (yS (yS y 3 0) 9 0) w) := hD
    refine lv_iconst (v := 0) hx hb dX10_writeComplaints_23 (by decide) ?_
    refine lv_istore_n (lv' := [(2, .int (0)), (0, .ref (b 0)), (1, .int (z))]) hx hb dX10_writeComplaints_24 rfl hl (by decide) rfl (fun ls hl => ?_)
    have L25 : ∀ (n9 : Nat) (k : Nat) (f8 : Nat → Int32) (wn : Nat), (N - k) < n9 → (k ≤ N) → (iter (wStepR (y 1) z) (N - k) k (f8, wn) = iter (wStepR (y 1) z) N 0 (y 8, 0)) → (wn ≤ 5 * k) → ∀ (H : Heap) (locs : List Loc) (ls : Array Slot), va_P D vwCl (REF T b (yS (yS (va_up y 8 f8) 3 0) 9 (nI wn)) w) H → va_D A (REF T b (yS (yS (va_up y 8 f8) 3 0) 9 (nI wn)) w) → va_S A s.heap H locs → lv_has ls 3 [(2, .int (nI k)), (0, .ref (b 0)), (1, .int (z))] → W p l e ({ frames := 2, cells := 0, slots := 0, locals := 42 } : Room) s m args below meth c H locs 0 0 Q (F0 m 25 ls []) := by
      intro n9
      induction n9 with
      | zero => intro k f8 wn hm9; exact absurd hm9 (Nat.not_lt_zero _)
      | succ n9 ih =>
        intro k f8 wn hm9 hk9 hR hw9 H locs ls hP hD hS hl
        refine lv_iload_n hx hb dX10_writeComplaints_25 rfl (lv_at hl 0 rfl) ?_
        refine lv_aload_n hx hb dX10_writeComplaints_26 rfl (lv_at hl 1 rfl) ?_
        refine va_get (D := D) (ci := 10) (v := .ref (b 1)) (C := RX10) (T := TX10) (N := 19) hx hb hts i10 hown hK hP 0 rfl rfl 0 (by decide) w3 (fun _ h9 => h9) rfl dX10_writeComplaints_27 ?_
        refine lv_bipush (v := 6) hx hb dX10_writeComplaints_30 (by decide) ?_
        refine aldI hx hb hK hP 1 0 rfl rfl (6) rfl (by omega) (by decide) dX10_writeComplaints_32 ?_
        refine endI (r := nI N) (hN) ?_
        refine lv_icmp_ge (tgt := 59) hx hb dX10_writeComplaints_33 (by decide) (fun c33 => ?_) (fun c33 => ?_)
        ·
          have c33 : N ≤ k := (nI_leI (a := N) (b := k) (by omega) (by omega)).mp c33
          rw [iter_done (by omega)] at hR
          refine lv_aload_n hx hb dX10_writeComplaints_59 rfl (lv_at hl 1 rfl) ?_
          refine va_get (D := D) (ci := 10) (v := .int (nI wn)) (C := RX10) (T := TX10) (N := 19) hx hb hts i10 hown hK hP 0 rfl rfl 18 (by decide) w2 (fun _ h9 => h9) rfl dX10_writeComplaints_60 ?_
          refine endI (r := if rg z 0 99 then nI (iter (wStepR (y 1) z) N 0 (y 8, 0)).2 else 0) (by first | (simp [c9, c33]; done) | (rw [if_pos c9, ← hR])) ?_
          have hE : (yS (yS (va_up y 8 f8) 3 0) 9 (nI wn)) = (if rg z 0 99 then yS (yS (va_up y 8 (iter (wStepR (y 1) z) N 0 (y 8, 0)).1) 3 0) 9 (nI (iter (wStepR (y 1) z) N 0 (y 8, 0)).2) else yS y 3 1) := by first | (simp [yS_same, c9, c33]; done) | (rw [if_pos c9, ← hR])
          exact hret _ _ _ _ dX10_writeComplaints_63 (by rw [← hE]; exact hP) (by rw [← hE]; exact hD) hS
        ·
          have c33 : ¬ N ≤ k := fun h9 => c33 ((nI_leI (a := N) (b := k) (by omega) (by omega)).mpr h9)
          refine lv_aload_n hx hb dX10_writeComplaints_36 rfl (lv_at hl 1 rfl) ?_
          refine va_get (D := D) (ci := 10) (v := .ref (b 1)) (C := RX10) (T := TX10) (N := 19) hx hb hts i10 hown hK hP 0 rfl rfl 0 (by decide) w3 (fun _ h9 => h9) rfl dX10_writeComplaints_37 ?_
          refine lv_iload_n hx hb dX10_writeComplaints_40 rfl (lv_at hl 0 rfl) ?_
          refine rdS (As := [.ref (b 1), .int (nI k)]) (rest := []) ⟨hx, hb, hml, hown, hts⟩ (c_X10_personIn l D T (b 1) (y 1) k (by first | omega | assumption | decide)) (va_cwS 2 hts gX10_writeComplaints_X10_personIn rfl rfl rfl (by decide +kernel) ⟨Nat.le_of_ble_eq_true rfl, Nat.le_of_ble_eq_true rfl⟩) hK (hP.sub [1] rfl) rfl hl.1 rfl (Nat.le_of_ble_eq_true rfl) ⟨Nat.zero_le _, Nat.zero_le _⟩ dX10_writeComplaints_41 ?_
          refine lv_iload_n hx hb dX10_writeComplaints_44 rfl (lv_at hl 2 rfl) ?_
          refine lv_icmp_ne (tgt := 53) hx hb dX10_writeComplaints_45 (by decide) (fun c45 => ?_) (fun c45 => ?_)
          ·
            have hq3 : wStepR (y 1) z k (f8, wn) = (f8, wn) := by unfold wStepR; rw [if_neg c45]
            refine lv_iinc (v := nI (k + 1)) (lv' := [(2, .int (nI (k + 1))), (0, .ref (b 0)), (1, .int (z))]) hx hb dX10_writeComplaints_53 hl (k := 0) rfl (nI_1 _) (by decide) rfl (fun ls hl => ?_)
            refine lv_goto (tgt := 25) hx hb dX10_writeComplaints_56 (by decide) ?_
            exact ih (k + 1) f8 wn (by omega) (by omega) (by rw [iter_step (by omega), hq3] at hR; exact hR) (by omega) _ _ _ hP hD hS (lv_sub hl [0, 1, 2] rfl)
          ·
            obtain ⟨q, hq, hq2⟩ := hSt k (by omega)
            have hq3 : wStepR (y 1) z k (f8, wn) = wLine k q (f8, wn) := by unfold wStepR; rw [if_pos c45, hq2, nI_clamp (by omega)]
            have hq4 := wLine_n k q (f8, wn)
            dsimp only at hq4
            refine lv_aload_n hx hb dX10_writeComplaints_48 rfl (lv_at hl 1 rfl) ?_
            refine lv_iload_n hx hb dX10_writeComplaints_49 rfl (lv_at hl 0 rfl) ?_
            refine wrVv (As := [.int (nI k)]) (rest := []) ⟨hx, hb, hml, hown, hts⟩ (c_X10_writesComplaint l D T b (yS (yS (va_up y 8 f8) 3 0) 9 (nI wn)) w k wn q (by omega) rfl (by omega) hq hq2 _) (cwV 1 hts gX10_writeComplaints_X10_writesComplaint rfl rfl rfl (by decide +kernel) ⟨Nat.le_of_ble_eq_true rfl, Nat.le_of_ble_eq_true rfl⟩) (Foc.rfl _ _) hK hP hD hS hA 0 rfl rfl rfl hl.1 rfl (Nat.le_of_ble_eq_true rfl) ⟨Nat.zero_le _, Nat.zero_le _⟩ dX10_writeComplaints_50 (fun H locs hP hD hS => ?_)
            have hP : va_P D vwCl (REF T b (yS (va_up (yS (yS (va_up y 8 f8) 3 0) 9 (nI wn)) 8 (wLine k q ((yS (yS (va_up y 8 f8) 3 0) 9 (nI wn)) 8, wn)).1) 9 (nI (wLine k q ((yS (yS (va_up y 8 f8) 3 0) 9 (nI wn)) 8, wn)).2)) w) H := hP
            have hD : va_D A (REF T b (yS (va_up (yS (yS (va_up y 8 f8) 3 0) 9 (nI wn)) 8 (wLine k q ((yS (yS (va_up y 8 f8) 3 0) 9 (nI wn)) 8, wn)).1) 9 (nI (wLine k q ((yS (yS (va_up y 8 f8) 3 0) 9 (nI wn)) 8, wn)).2)) w) := hD
            refine lv_iinc (v := nI (k + 1)) (lv' := [(2, .int (nI (k + 1))), (0, .ref (b 0)), (1, .int (z))]) hx hb dX10_writeComplaints_53 hl (k := 0) rfl (nI_1 _) (by decide) rfl (fun ls hl => ?_)
            refine lv_goto (tgt := 25) hx hb dX10_writeComplaints_56 (by decide) ?_
            exact ih (k + 1) ((wLine k q (f8, wn)).1) ((wLine k q (f8, wn)).2) (by omega) (by omega) (by rw [iter_step (by omega), hq3] at hR; exact hR) (by omega) _ _ _ hP hD hS (lv_sub hl [0, 1, 2] rfl)
    exact L25 _ 0 (y 8) 0 (Nat.lt_succ_self _) (by omega) (by rfl) (by omega) _ _ _ hP hD hS (lv_sub hl [0, 1, 2] rfl)
  ·
    have c9 := bI_0.mp c9
    refine lv_aload_n hx hb dX10_writeComplaints_12 rfl (lv_at hl 0 rfl) ?_
    refine lv_iconst (v := 1) hx hb dX10_writeComplaints_13 (by decide) ?_
    refine wrVi (As := [.int (1)]) (rest := []) ⟨hx, hb, hml, hown, hts⟩ (c_X10_fails l D T b (yS y 3 0) w 1 _) (cwV 1 hts gX10_writeComplaints_X10_fails rfl rfl rfl (by decide +kernel) ⟨Nat.le_of_ble_eq_true rfl, Nat.le_of_ble_eq_true rfl⟩) (Foc.rfl _ _) hK hP hD hS hA 0 rfl rfl rfl hl.1 rfl (Nat.le_of_ble_eq_true rfl) ⟨Nat.zero_le _, Nat.zero_le _⟩ dX10_writeComplaints_14 (fun H locs hP hD hS => ?_)
    have hP : va_P D vwCl (REF T b (yS (yS y 3 0) 3 1) w) H := hP
    have hD : va_D A (REF T b (yS (yS y 3 0) 3 1) w) := hD
    refine endI (r := if rg z 0 99 then nI (iter (wStepR (y 1) z) N 0 (y 8, 0)).2 else 0) (by first | (simp [c9]; done) | (rw [if_pos c9, ← hR])) ?_
    have hE : (yS (yS y 3 0) 3 1) = (if rg z 0 99 then yS (yS (va_up y 8 (iter (wStepR (y 1) z) N 0 (y 8, 0)).1) 3 0) 9 (nI (iter (wStepR (y 1) z) N 0 (y 8, 0)).2) else yS y 3 1) := by first | (simp [yS_same, c9]; done) | (rw [if_pos c9, ← hR])
    exact hret _ _ _ _ dX10_writeComplaints_17 (by rw [← hE]; exact hP) (by rw [← hE]; exact hD) hS

set_option maxHeartbeats 4000000 in
set_option maxRecDepth 100000 in
theorem c_X10_writtenByte (l : Launch) (D : va_G) (T : Nat → ClassId) (b : Nat → Nat) (y : Nat → Nat → Int32) (w : Int64) (z : Int32) (wn : Nat) (hw : y 0 9 = nI wn) (hw2 : wn ≤ 200) (sz : Nat) : Met l yX10_writtenByte wsX10_writtenByte ({ frames := 1, cells := 0, slots := 0, locals := 22 } : Room) (va_Pc [.ref (b 0), .int (z)] (PS D T (REF T b y w) sz)) (va_Qi (fun r9 (_ : Unit) => r9 = (if inN z wn then y 8 z.toNatClampNeg else 0)) (fun _ t => QS D T (va_A (REF T b y w) sz) (REF T b (yS y 3 (if inN z wn then 0 else 1)) w) t) (va_A (REF T b y w) sz)) 0 0 (va_A (REF T b y w) sz) := by
  refine metSi (cc := cX10_writtenByte) (maxL := 2) (ty := .int) (by decide) rfl (by rfl) (Nat.le_of_ble_eq_true rfl) ?_
  intro p e s m args below meth c Q ls A hx hb hml hown hts hP hK hD hA hS hl hret
  have hown : s.vm.findClass RX10 = some m.cls := hown
  have hl : lv_has ls 2 [(0, .ref (b 0)), (1, .int (z))] := hl
  have i10 : ∀ w ∈ wsX100, w ∈ wsX10_writtenByte := by decide +kernel
  have w1 := hts (Cond.fieldLink RX10 51 "MoonComplaintWindowModel" "thrown" "I") (List.mem_of_getElem? (i := 1) rfl)
  have w2 := hts (Cond.fieldLink RX10 312 "MoonComplaintWindowModel" "written" "I") (List.mem_of_getElem? (i := 2) rfl)
  have w3 := hts (Cond.fieldLink RX10 36 "MoonComplaintWindowModel" "out" "[I") (List.mem_of_getElem? (i := 3) rfl)
  refine lv_aload_n hx hb dX10_writtenByte_0 rfl (lv_at hl 0 rfl) ?_
  refine lv_iconst (v := 0) hx hb dX10_writtenByte_1 (by decide) ?_
  refine va_put (D := D) (ci := 10) (v := .int (0)) (ty := .int) (C := RX10) (T := TX10) (N := 19) hx hb hts i10 tyX10 tyX10_ok nmX10 hown hK hP hD hS 0 rfl rfl 10 (by decide) w1 (fun _ h9 => h9) rfl (by decide +kernel) rfl rfl (Nat.le_of_ble_eq_true rfl) dX10_writtenByte_2 (fun H locs hP hD hS => ?_)
  have hP : va_P D vwCl (REF T b (yS y 3 0) w) H := hP
  have hD : va_D A (REF T b (yS y 3 0) w) := hD
  refine lv_iload_n hx hb dX10_writtenByte_5 rfl (lv_at hl 1 rfl) ?_
  refine lv_iconst (v := 0) hx hb dX10_writtenByte_6 (by decide) ?_
  refine lv_aload_n hx hb dX10_writtenByte_7 rfl (lv_at hl 0 rfl) ?_
  refine va_get (D := D) (ci := 10) (v := .int (y 0 9)) (C := RX10) (T := TX10) (N := 19) hx hb hts i10 hown hK hP 0 rfl rfl 18 (by decide) w2 (fun _ h9 => h9) rfl dX10_writtenByte_8 ?_
  refine endI (r := nI wn) (hw) ?_
  refine lv_iconst (v := 1) hx hb dX10_writtenByte_11 (by decide) ?_
  refine lv_isub hx hb dX10_writtenByte_12 ?_
  refine rdT (As := [.int (z), .int (0), .int ((nI wn) - 1)]) (rest := []) ⟨hx, hb, hml, hown, hts⟩ (c_X10_in l D T z 0 ((nI wn) - 1) ) (va_cwS 3 hts gX10_writtenByte_X10_in rfl rfl rfl (by decide +kernel) ⟨Nat.le_of_ble_eq_true rfl, Nat.le_of_ble_eq_true rfl⟩) rfl hl.1 rfl (Nat.le_of_ble_eq_true rfl) ⟨Nat.zero_le _, Nat.zero_le _⟩ dX10_writtenByte_13 ?_
  refine lv_if_eq (tgt := 26) hx hb dX10_writtenByte_16 (by decide) (fun c16 => ?_) (fun c16 => ?_)
  ·
    have c16 := bI_0.mp c16
    have c16 : inN z wn = false := by rw [← inN_R (by omega)]; exact c16
    refine lv_aload_n hx hb dX10_writtenByte_26 rfl (lv_at hl 0 rfl) ?_
    refine lv_iconst (v := 1) hx hb dX10_writtenByte_27 (by decide) ?_
    refine wrVi (As := [.int (1)]) (rest := []) ⟨hx, hb, hml, hown, hts⟩ (c_X10_fails l D T b (yS y 3 0) w 1 _) (cwV 1 hts gX10_writtenByte_X10_fails rfl rfl rfl (by decide +kernel) ⟨Nat.le_of_ble_eq_true rfl, Nat.le_of_ble_eq_true rfl⟩) (Foc.rfl _ _) hK hP hD hS hA 0 rfl rfl rfl hl.1 rfl (Nat.le_of_ble_eq_true rfl) ⟨Nat.zero_le _, Nat.zero_le _⟩ dX10_writtenByte_28 (fun H locs hP hD hS => ?_)
    have hP : va_P D vwCl (REF T b (yS (yS y 3 0) 3 1) w) H := hP
    have hD : va_D A (REF T b (yS (yS y 3 0) 3 1) w) := hD
    refine endI (r := if inN z wn then y 8 z.toNatClampNeg else 0) (by first | (simp [c16]; done) | (rw [if_pos c16, hjc]; rfl)) ?_
    have hE : (yS (yS y 3 0) 3 1) = (yS y 3 (if inN z wn then 0 else 1)) := by first | rfl | (simp [yS_same, c16]; done) | ((first | have c16x := Int32.not_lt.mp c16 | have c16x := Int32.not_le.mp c16 | have c16x := Int32.not_lt.mpr c16 | have c16x := Int32.not_le.mpr c16 | have c16x := c16); simp [yS_same, c16, c16x]; done)
    exact hret _ _ _ _ dX10_writtenByte_31 (by rw [← hE]; exact hP) (by rw [← hE]; exact hD) hS
  ·
    have c16 := bI_n0.mp c16
    have c16 : inN z wn = true := by rw [← inN_R (by omega)]; exact c16
    obtain ⟨j, hj, hjz, hjc⟩ := inN_t (by omega) c16
    rw [hjz] at hl
    have hl : lv_has ls 2 [(0, .ref (b 0)), (1, .int (nI j))] := hl
    refine lv_aload_n hx hb dX10_writtenByte_19 rfl (lv_at hl 0 rfl) ?_
    refine va_get (D := D) (ci := 10) (v := .ref (b 8)) (C := RX10) (T := TX10) (N := 19) hx hb hts i10 hown hK hP 0 rfl rfl 17 (by decide) w3 (fun _ h9 => h9) rfl dX10_writtenByte_20 ?_
    refine lv_iload_n hx hb dX10_writtenByte_23 rfl (lv_at hl 1 rfl) ?_
    refine aldI hx hb hK hP 8 0 rfl rfl (j) rfl (by omega) (by decide) dX10_writtenByte_24 ?_
    refine endI (r := if inN z wn then y 8 z.toNatClampNeg else 0) (by first | (simp [c16]; done) | (rw [if_pos c16, hjc]; rfl)) ?_
    have hE : (yS y 3 0) = (yS y 3 (if inN z wn then 0 else 1)) := by first | rfl | (simp [yS_same, c16]; done) | ((first | have c16x := Int32.not_lt.mp c16 | have c16x := Int32.not_le.mp c16 | have c16x := Int32.not_lt.mpr c16 | have c16x := Int32.not_le.mpr c16 | have c16x := c16); simp [yS_same, c16, c16x]; done)
    exact hret _ _ _ _ dX10_writtenByte_25 (by rw [← hE]; exact hP) (by rw [← hE]; exact hD) hS

set_option maxHeartbeats 4000000 in
set_option maxRecDepth 100000 in
theorem c_X10_append (l : Launch) (D : va_G) (T : Nat → ClassId) (b : Nat → Nat) (y : Nat → Nat → Int32) (w : Int64) (a1 : Int32) (a2 : Int32) (a3 : Int32) (a4 : Int32) (a5 : Int32) (L : Nat) (hL : y 0 1 = nI L) (hL2 : L ≤ 600) (sz : Nat) : Met l yX10_append wsX10_append ({ frames := 1, cells := 0, slots := 0, locals := 21 } : Room) (va_Pc [.ref (b 0), .int (a1), .int (a2), .int (a3), .int (a4), .int (a5)] (PS D T (REF T b y w) sz)) (va_Qi (fun r9 (_ : Unit) => r9 = (if L + 20 ≤ 600 then nI (L + 20) else 0)) (fun _ t => QS D T (va_A (REF T b y w) sz) (REF T b (if L + 20 ≤ 600 then yS (yS (va_up y 7 (appR a1 a2 a3 a4 a5 L (y 7))) 3 0) 1 (nI (L + 20)) else yS y 3 1) w) t) (va_A (REF T b y w) sz)) 0 0 (va_A (REF T b y w) sz) := by
  refine metSi (cc := cX10_append) (maxL := 8) (ty := .int) (by decide) rfl (by rfl) (Nat.le_of_ble_eq_true rfl) ?_
  intro p e s m args below meth c Q ls A hx hb hml hown hts hP hK hD hA hS hl hret
  have hown : s.vm.findClass RX10 = some m.cls := hown
  have hl : lv_has ls 8 [(0, .ref (b 0)), (1, .int (a1)), (2, .int (a2)), (3, .int (a3)), (4, .int (a4)), (5, .int (a5))] := hl
  have i10 : ∀ w ∈ wsX100, w ∈ wsX10_append := by decide +kernel
  have w1 := hts (Cond.fieldLink RX10 51 "MoonComplaintWindowModel" "thrown" "I") (List.mem_of_getElem? (i := 1) rfl)
  have w2 := hts (Cond.fieldLink RX10 166 "MoonComplaintWindowModel" "length" "I") (List.mem_of_getElem? (i := 2) rfl)
  have w3 := hts (Cond.fieldLink RX10 29 "MoonComplaintWindowModel" "buffer" "[I") (List.mem_of_getElem? (i := 3) rfl)
  refine lv_aload_n hx hb dX10_append_0 rfl (lv_at hl 0 rfl) ?_
  refine lv_iconst (v := 0) hx hb dX10_append_1 (by decide) ?_
  refine va_put (D := D) (ci := 10) (v := .int (0)) (ty := .int) (C := RX10) (T := TX10) (N := 19) hx hb hts i10 tyX10 tyX10_ok nmX10 hown hK hP hD hS 0 rfl rfl 10 (by decide) w1 (fun _ h9 => h9) rfl (by decide +kernel) rfl rfl (Nat.le_of_ble_eq_true rfl) dX10_append_2 (fun H locs hP hD hS => ?_)
  have hP : va_P D vwCl (REF T b (yS y 3 0) w) H := hP
  have hD : va_D A (REF T b (yS y 3 0) w) := hD
  refine lv_aload_n hx hb dX10_append_5 rfl (lv_at hl 0 rfl) ?_
  refine va_get (D := D) (ci := 10) (v := .int (y 0 1)) (C := RX10) (T := TX10) (N := 19) hx hb hts i10 hown hK hP 0 rfl rfl 8 (by decide) w2 (fun _ h9 => h9) rfl dX10_append_6 ?_
  refine endI (r := nI L) (hL) ?_
  refine lv_bipush (v := 20) hx hb dX10_append_9 (by decide) ?_
  refine lv_iadd hx hb dX10_append_11 ?_
  refine endI (r := nI (L + 20)) (nI_add _ _) ?_
  refine lv_sipush (v := 600) hx hb dX10_append_12 (by decide) ?_
  refine lv_icmp_le (tgt := 24) hx hb dX10_append_15 (by decide) (fun c15 => ?_) (fun c15 => ?_)
  ·
    have c15 : (L + 20) ≤ 600 := (nI_leI (a := (L + 20)) (b := 600) (by omega) (by omega)).mp c15
    refine lv_iconst (v := 0) hx hb dX10_append_24 (by decide) ?_
    refine lv_istore (lv' := [(6, .int (0)), (0, .ref (b 0)), (1, .int (a1)), (2, .int (a2)), (3, .int (a3)), (4, .int (a4)), (5, .int (a5))]) hx hb dX10_append_25 hl (by decide) rfl (fun ls hl => ?_)
    have L27 : ∀ (n9 : Nat) (k : Nat) (f7 : Nat → Int32), (20 - k) < n9 → (k ≤ 20) → (iter (fun k f => va_up f (L + k) (byteI a1 a2 a3 a4 a5 k)) (20 - k) k f7 = appR a1 a2 a3 a4 a5 L (y 7)) → ∀ (H : Heap) (locs : List Loc) (ls : Array Slot), va_P D vwCl (REF T b (yS (yS (va_up y 7 f7) 3 0) 1 (nI (L + k))) w) H → va_D A (REF T b (yS (yS (va_up y 7 f7) 3 0) 1 (nI (L + k))) w) → va_S A s.heap H locs → lv_has ls 8 [(6, .int (nI k)), (0, .ref (b 0)), (1, .int (a1)), (2, .int (a2)), (3, .int (a3)), (4, .int (a4)), (5, .int (a5))] → W p l e ({ frames := 1, cells := 0, slots := 0, locals := 21 } : Room) s m args below meth c H locs 0 0 Q (F0 m 27 ls []) := by
      intro n9
      induction n9 with
      | zero => intro k f7 hm9; exact absurd hm9 (Nat.not_lt_zero _)
      | succ n9 ih =>
        intro k f7 hm9 hk9 hR H locs ls hP hD hS hl
        refine lv_iload hx hb dX10_append_27 (lv_at hl 0 rfl) ?_
        refine lv_bipush (v := 20) hx hb dX10_append_29 (by decide) ?_
        refine lv_icmp_ge (tgt := 124) hx hb dX10_append_31 (by decide) (fun c31 => ?_) (fun c31 => ?_)
        ·
          have c31 : 20 ≤ k := (nI_leI (a := 20) (b := k) (by omega) (by omega)).mp c31
          rw [iter_done (by omega)] at hR
          have hk20 : k = 20 := by omega
          refine lv_aload_n hx hb dX10_append_124 rfl (lv_at hl 1 rfl) ?_
          refine va_get (D := D) (ci := 10) (v := .int (nI (L + k))) (C := RX10) (T := TX10) (N := 19) hx hb hts i10 hown hK hP 0 rfl rfl 8 (by decide) w2 (fun _ h9 => h9) rfl dX10_append_125 ?_
          refine endI (r := if L + 20 ≤ 600 then nI (L + 20) else 0) (by first | (rw [if_pos (by omega), hk20]) | (rw [if_neg (by omega)])) ?_
          have hE : (yS (yS (va_up y 7 f7) 3 0) 1 (nI (L + k))) = (if L + 20 ≤ 600 then yS (yS (va_up y 7 (appR a1 a2 a3 a4 a5 L (y 7))) 3 0) 1 (nI (L + 20)) else yS y 3 1) := by first | (rw [if_pos (by omega), ← hR, hk20]) | (rw [if_neg (by omega), yS_same])
          exact hret _ _ _ _ dX10_append_128 (by rw [← hE]; exact hP) (by rw [← hE]; exact hD) hS
        ·
          have c31 : ¬ 20 ≤ k := fun h9 => c31 ((nI_leI (a := 20) (b := k) (by omega) (by omega)).mpr h9)
          refine lv_iload hx hb dX10_append_34 (lv_at hl 0 rfl) ?_
          refine lv_iconst (v := 4) hx hb dX10_append_36 (by decide) ?_
          refine lv_icmp_ge (tgt := 44) hx hb dX10_append_37 (by decide) (fun c37 => ?_) (fun c37 => ?_)
          ·
            have c37 : 4 ≤ k := (nI_leI (a := 4) (b := k) (by omega) (by omega)).mp c37
            refine lv_iload hx hb dX10_append_44 (lv_at hl 0 rfl) ?_
            refine lv_bipush (v := 8) hx hb dX10_append_46 (by decide) ?_
            refine lv_icmp_ge (tgt := 55) hx hb dX10_append_48 (by decide) (fun c48 => ?_) (fun c48 => ?_)
            ·
              have c48 : 8 ≤ k := (nI_leI (a := 8) (b := k) (by omega) (by omega)).mp c48
              refine lv_iload hx hb dX10_append_55 (lv_at hl 0 rfl) ?_
              refine lv_bipush (v := 12) hx hb dX10_append_57 (by decide) ?_
              refine lv_icmp_ge (tgt := 66) hx hb dX10_append_59 (by decide) (fun c59 => ?_) (fun c59 => ?_)
              ·
                have c59 : 12 ≤ k := (nI_leI (a := 12) (b := k) (by omega) (by omega)).mp c59
                refine lv_iload hx hb dX10_append_66 (lv_at hl 0 rfl) ?_
                refine lv_bipush (v := 16) hx hb dX10_append_68 (by decide) ?_
                refine lv_icmp_ge (tgt := 78) hx hb dX10_append_70 (by decide) (fun c70 => ?_) (fun c70 => ?_)
                ·
                  have c70 : 16 ≤ k := (nI_leI (a := 16) (b := k) (by omega) (by omega)).mp c70
                  refine lv_iload hx hb dX10_append_78 (lv_at hl 6 rfl) ?_
                  refine lv_istore (lv' := [(7, .int (a5)), (6, .int (nI k)), (0, .ref (b 0)), (1, .int (a1)), (2, .int (a2)), (3, .int (a3)), (4, .int (a4)), (5, .int (a5))]) hx hb dX10_append_80 hl (by decide) rfl (fun ls hl => ?_)
                  refine lv_aload_n hx hb dX10_append_82 rfl (lv_at hl 2 rfl) ?_
                  refine va_get (D := D) (ci := 10) (v := .ref (b 7)) (C := RX10) (T := TX10) (N := 19) hx hb hts i10 hown hK hP 0 rfl rfl 7 (by decide) w3 (fun _ h9 => h9) rfl dX10_append_83 ?_
                  refine lv_aload_n hx hb dX10_append_86 rfl (lv_at hl 2 rfl) ?_
                  refine va_get (D := D) (ci := 10) (v := .int (nI (L + k))) (C := RX10) (T := TX10) (N := 19) hx hb hts i10 hown hK hP 0 rfl rfl 8 (by decide) w2 (fun _ h9 => h9) rfl dX10_append_87 ?_
                  refine lv_iload hx hb dX10_append_90 (lv_at hl 0 rfl) ?_
                  refine lv_bipush (v := 24) hx hb dX10_append_92 (by decide) ?_
                  refine lv_bipush (v := 8) hx hb dX10_append_94 (by decide) ?_
                  refine lv_iload hx hb dX10_append_96 (lv_at hl 1 rfl) ?_
                  refine lv_iconst (v := 4) hx hb dX10_append_98 (by decide) ?_
                  refine lv_irem hx hb dX10_append_99 (by decide) ?_
                  refine endI (r := nI (k % 4)) (rem4 (by omega)) ?_
                  refine lv_imul hx hb dX10_append_100 ?_
                  refine endI (r := nI (8 * (k % 4))) (pk_mul _ _) ?_
                  refine lv_isub hx hb dX10_append_101 ?_
                  refine lv_ishr hx hb dX10_append_102 ?_
                  refine lv_sipush (v := 255) hx hb dX10_append_103 (by decide) ?_
                  refine lv_iand hx hb dX10_append_106 ?_
                  refine astI hx hb hK hP hD hS 7 0 rfl rfl (L + k) rfl (by omega) (by decide) dX10_append_107 (fun H locs hP hD hS => ?_)
                  have hP : va_P D vwCl (REF T b (yS (yS (va_up y 7 (va_up f7 (L + k) ((a5 >>> ((24 - (nI (8 * (k % 4)))) &&& 31)) &&& 255))) 3 0) 1 (nI (L + k))) w) H := hP
                  have hD : va_D A (REF T b (yS (yS (va_up y 7 (va_up f7 (L + k) ((a5 >>> ((24 - (nI (8 * (k % 4)))) &&& 31)) &&& 255))) 3 0) 1 (nI (L + k))) w) := hD
                  refine lv_aload_n hx hb dX10_append_108 rfl (lv_at hl 2 rfl) ?_
                  refine lv_dup hx hb dX10_append_109 rfl ?_
                  refine va_get (D := D) (ci := 10) (v := .int (nI (L + k))) (C := RX10) (T := TX10) (N := 19) hx hb hts i10 hown hK hP 0 rfl rfl 8 (by decide) w2 (fun _ h9 => h9) rfl dX10_append_110 ?_
                  refine lv_iconst (v := 1) hx hb dX10_append_113 (by decide) ?_
                  refine lv_iadd hx hb dX10_append_114 ?_
                  refine endI (r := nI ((L + k) + 1)) (nI_add _ _) ?_
                  refine va_put (D := D) (ci := 10) (v := .int (nI ((L + k) + 1))) (ty := .int) (C := RX10) (T := TX10) (N := 19) hx hb hts i10 tyX10 tyX10_ok nmX10 hown hK hP hD hS 0 rfl rfl 8 (by decide) w2 (fun _ h9 => h9) rfl (by decide +kernel) rfl rfl (Nat.le_of_ble_eq_true rfl) dX10_append_115 (fun H locs hP hD hS => ?_)
                  have hP : va_P D vwCl (REF T b (yS (yS (va_up y 7 (va_up f7 (L + k) ((a5 >>> ((24 - (nI (8 * (k % 4)))) &&& 31)) &&& 255))) 3 0) 1 (nI ((L + k) + 1))) w) H := hP
                  have hD : va_D A (REF T b (yS (yS (va_up y 7 (va_up f7 (L + k) ((a5 >>> ((24 - (nI (8 * (k % 4)))) &&& 31)) &&& 255))) 3 0) 1 (nI ((L + k) + 1))) w) := hD
                  refine lv_iinc (v := nI (k + 1)) (lv' := [(6, .int (nI (k + 1))), (7, .int (a5)), (0, .ref (b 0)), (1, .int (a1)), (2, .int (a2)), (3, .int (a3)), (4, .int (a4)), (5, .int (a5))]) hx hb dX10_append_118 hl (k := 1) rfl (nI_1 _) (by decide) rfl (fun ls hl => ?_)
                  refine lv_goto (tgt := 27) hx hb dX10_append_121 (by decide) ?_
                  exact ih (k + 1) (va_up f7 (L + k) ((a5 >>> ((24 - (nI (8 * (k % 4)))) &&& 31)) &&& 255)) (by omega) (by omega) (by rw [iter_step (by omega)] at hR; rw [← hR]; congr 1; simp only [byteI, selI]; (first | rw [if_neg c15] | rw [if_pos c15] | skip); (first | rw [if_neg c31] | rw [if_pos c31] | skip); (first | rw [if_neg c37] | rw [if_pos c37] | skip); (first | rw [if_neg c48] | rw [if_pos c48] | skip); (first | rw [if_neg c59] | rw [if_pos c59] | skip); (first | rw [if_neg c70] | rw [if_pos c70] | skip); try rfl) _ _ _ hP hD hS (lv_sub hl [0, 2, 3, 4, 5, 6, 7] rfl)
                ·
                  have c70 : ¬ 16 ≤ k := fun h9 => c70 ((nI_leI (a := 16) (b := k) (by omega) (by omega)).mpr h9)
                  refine lv_iload hx hb dX10_append_73 (lv_at hl 5 rfl) ?_
                  refine lv_goto (tgt := 80) hx hb dX10_append_75 (by decide) ?_
                  refine lv_istore (lv' := [(7, .int (a4)), (6, .int (nI k)), (0, .ref (b 0)), (1, .int (a1)), (2, .int (a2)), (3, .int (a3)), (4, .int (a4)), (5, .int (a5))]) hx hb dX10_append_80 hl (by decide) rfl (fun ls hl => ?_)
                  refine lv_aload_n hx hb dX10_append_82 rfl (lv_at hl 2 rfl) ?_
                  refine va_get (D := D) (ci := 10) (v := .ref (b 7)) (C := RX10) (T := TX10) (N := 19) hx hb hts i10 hown hK hP 0 rfl rfl 7 (by decide) w3 (fun _ h9 => h9) rfl dX10_append_83 ?_
                  refine lv_aload_n hx hb dX10_append_86 rfl (lv_at hl 2 rfl) ?_
                  refine va_get (D := D) (ci := 10) (v := .int (nI (L + k))) (C := RX10) (T := TX10) (N := 19) hx hb hts i10 hown hK hP 0 rfl rfl 8 (by decide) w2 (fun _ h9 => h9) rfl dX10_append_87 ?_
                  refine lv_iload hx hb dX10_append_90 (lv_at hl 0 rfl) ?_
                  refine lv_bipush (v := 24) hx hb dX10_append_92 (by decide) ?_
                  refine lv_bipush (v := 8) hx hb dX10_append_94 (by decide) ?_
                  refine lv_iload hx hb dX10_append_96 (lv_at hl 1 rfl) ?_
                  refine lv_iconst (v := 4) hx hb dX10_append_98 (by decide) ?_
                  refine lv_irem hx hb dX10_append_99 (by decide) ?_
                  refine endI (r := nI (k % 4)) (rem4 (by omega)) ?_
                  refine lv_imul hx hb dX10_append_100 ?_
                  refine endI (r := nI (8 * (k % 4))) (pk_mul _ _) ?_
                  refine lv_isub hx hb dX10_append_101 ?_
                  refine lv_ishr hx hb dX10_append_102 ?_
                  refine lv_sipush (v := 255) hx hb dX10_append_103 (by decide) ?_
                  refine lv_iand hx hb dX10_append_106 ?_
                  refine astI hx hb hK hP hD hS 7 0 rfl rfl (L + k) rfl (by omega) (by decide) dX10_append_107 (fun H locs hP hD hS => ?_)
                  have hP : va_P D vwCl (REF T b (yS (yS (va_up y 7 (va_up f7 (L + k) ((a4 >>> ((24 - (nI (8 * (k % 4)))) &&& 31)) &&& 255))) 3 0) 1 (nI (L + k))) w) H := hP
                  have hD : va_D A (REF T b (yS (yS (va_up y 7 (va_up f7 (L + k) ((a4 >>> ((24 - (nI (8 * (k % 4)))) &&& 31)) &&& 255))) 3 0) 1 (nI (L + k))) w) := hD
                  refine lv_aload_n hx hb dX10_append_108 rfl (lv_at hl 2 rfl) ?_
                  refine lv_dup hx hb dX10_append_109 rfl ?_
                  refine va_get (D := D) (ci := 10) (v := .int (nI (L + k))) (C := RX10) (T := TX10) (N := 19) hx hb hts i10 hown hK hP 0 rfl rfl 8 (by decide) w2 (fun _ h9 => h9) rfl dX10_append_110 ?_
                  refine lv_iconst (v := 1) hx hb dX10_append_113 (by decide) ?_
                  refine lv_iadd hx hb dX10_append_114 ?_
                  refine endI (r := nI ((L + k) + 1)) (nI_add _ _) ?_
                  refine va_put (D := D) (ci := 10) (v := .int (nI ((L + k) + 1))) (ty := .int) (C := RX10) (T := TX10) (N := 19) hx hb hts i10 tyX10 tyX10_ok nmX10 hown hK hP hD hS 0 rfl rfl 8 (by decide) w2 (fun _ h9 => h9) rfl (by decide +kernel) rfl rfl (Nat.le_of_ble_eq_true rfl) dX10_append_115 (fun H locs hP hD hS => ?_)
                  have hP : va_P D vwCl (REF T b (yS (yS (va_up y 7 (va_up f7 (L + k) ((a4 >>> ((24 - (nI (8 * (k % 4)))) &&& 31)) &&& 255))) 3 0) 1 (nI ((L + k) + 1))) w) H := hP
                  have hD : va_D A (REF T b (yS (yS (va_up y 7 (va_up f7 (L + k) ((a4 >>> ((24 - (nI (8 * (k % 4)))) &&& 31)) &&& 255))) 3 0) 1 (nI ((L + k) + 1))) w) := hD
                  refine lv_iinc (v := nI (k + 1)) (lv' := [(6, .int (nI (k + 1))), (7, .int (a4)), (0, .ref (b 0)), (1, .int (a1)), (2, .int (a2)), (3, .int (a3)), (4, .int (a4)), (5, .int (a5))]) hx hb dX10_append_118 hl (k := 1) rfl (nI_1 _) (by decide) rfl (fun ls hl => ?_)
                  refine lv_goto (tgt := 27) hx hb dX10_append_121 (by decide) ?_
                  exact ih (k + 1) (va_up f7 (L + k) ((a4 >>> ((24 - (nI (8 * (k % 4)))) &&& 31)) &&& 255)) (by omega) (by omega) (by rw [iter_step (by omega)] at hR; rw [← hR]; congr 1; simp only [byteI, selI]; (first | rw [if_neg c15] | rw [if_pos c15] | skip); (first | rw [if_neg c31] | rw [if_pos c31] | skip); (first | rw [if_neg c37] | rw [if_pos c37] | skip); (first | rw [if_neg c48] | rw [if_pos c48] | skip); (first | rw [if_neg c59] | rw [if_pos c59] | skip); (first | rw [if_neg c70] | rw [if_pos c70] | skip); try rfl) _ _ _ hP hD hS (lv_sub hl [0, 2, 3, 4, 5, 6, 7] rfl)
              ·
                have c59 : ¬ 12 ≤ k := fun h9 => c59 ((nI_leI (a := 12) (b := k) (by omega) (by omega)).mpr h9)
                refine lv_iload_n hx hb dX10_append_62 rfl (lv_at hl 4 rfl) ?_
                refine lv_goto (tgt := 80) hx hb dX10_append_63 (by decide) ?_
                refine lv_istore (lv' := [(7, .int (a3)), (6, .int (nI k)), (0, .ref (b 0)), (1, .int (a1)), (2, .int (a2)), (3, .int (a3)), (4, .int (a4)), (5, .int (a5))]) hx hb dX10_append_80 hl (by decide) rfl (fun ls hl => ?_)
                refine lv_aload_n hx hb dX10_append_82 rfl (lv_at hl 2 rfl) ?_
                refine va_get (D := D) (ci := 10) (v := .ref (b 7)) (C := RX10) (T := TX10) (N := 19) hx hb hts i10 hown hK hP 0 rfl rfl 7 (by decide) w3 (fun _ h9 => h9) rfl dX10_append_83 ?_
                refine lv_aload_n hx hb dX10_append_86 rfl (lv_at hl 2 rfl) ?_
                refine va_get (D := D) (ci := 10) (v := .int (nI (L + k))) (C := RX10) (T := TX10) (N := 19) hx hb hts i10 hown hK hP 0 rfl rfl 8 (by decide) w2 (fun _ h9 => h9) rfl dX10_append_87 ?_
                refine lv_iload hx hb dX10_append_90 (lv_at hl 0 rfl) ?_
                refine lv_bipush (v := 24) hx hb dX10_append_92 (by decide) ?_
                refine lv_bipush (v := 8) hx hb dX10_append_94 (by decide) ?_
                refine lv_iload hx hb dX10_append_96 (lv_at hl 1 rfl) ?_
                refine lv_iconst (v := 4) hx hb dX10_append_98 (by decide) ?_
                refine lv_irem hx hb dX10_append_99 (by decide) ?_
                refine endI (r := nI (k % 4)) (rem4 (by omega)) ?_
                refine lv_imul hx hb dX10_append_100 ?_
                refine endI (r := nI (8 * (k % 4))) (pk_mul _ _) ?_
                refine lv_isub hx hb dX10_append_101 ?_
                refine lv_ishr hx hb dX10_append_102 ?_
                refine lv_sipush (v := 255) hx hb dX10_append_103 (by decide) ?_
                refine lv_iand hx hb dX10_append_106 ?_
                refine astI hx hb hK hP hD hS 7 0 rfl rfl (L + k) rfl (by omega) (by decide) dX10_append_107 (fun H locs hP hD hS => ?_)
                have hP : va_P D vwCl (REF T b (yS (yS (va_up y 7 (va_up f7 (L + k) ((a3 >>> ((24 - (nI (8 * (k % 4)))) &&& 31)) &&& 255))) 3 0) 1 (nI (L + k))) w) H := hP
                have hD : va_D A (REF T b (yS (yS (va_up y 7 (va_up f7 (L + k) ((a3 >>> ((24 - (nI (8 * (k % 4)))) &&& 31)) &&& 255))) 3 0) 1 (nI (L + k))) w) := hD
                refine lv_aload_n hx hb dX10_append_108 rfl (lv_at hl 2 rfl) ?_
                refine lv_dup hx hb dX10_append_109 rfl ?_
                refine va_get (D := D) (ci := 10) (v := .int (nI (L + k))) (C := RX10) (T := TX10) (N := 19) hx hb hts i10 hown hK hP 0 rfl rfl 8 (by decide) w2 (fun _ h9 => h9) rfl dX10_append_110 ?_
                refine lv_iconst (v := 1) hx hb dX10_append_113 (by decide) ?_
                refine lv_iadd hx hb dX10_append_114 ?_
                refine endI (r := nI ((L + k) + 1)) (nI_add _ _) ?_
                refine va_put (D := D) (ci := 10) (v := .int (nI ((L + k) + 1))) (ty := .int) (C := RX10) (T := TX10) (N := 19) hx hb hts i10 tyX10 tyX10_ok nmX10 hown hK hP hD hS 0 rfl rfl 8 (by decide) w2 (fun _ h9 => h9) rfl (by decide +kernel) rfl rfl (Nat.le_of_ble_eq_true rfl) dX10_append_115 (fun H locs hP hD hS => ?_)
                have hP : va_P D vwCl (REF T b (yS (yS (va_up y 7 (va_up f7 (L + k) ((a3 >>> ((24 - (nI (8 * (k % 4)))) &&& 31)) &&& 255))) 3 0) 1 (nI ((L + k) + 1))) w) H := hP
                have hD : va_D A (REF T b (yS (yS (va_up y 7 (va_up f7 (L + k) ((a3 >>> ((24 - (nI (8 * (k % 4)))) &&& 31)) &&& 255))) 3 0) 1 (nI ((L + k) + 1))) w) := hD
                refine lv_iinc (v := nI (k + 1)) (lv' := [(6, .int (nI (k + 1))), (7, .int (a3)), (0, .ref (b 0)), (1, .int (a1)), (2, .int (a2)), (3, .int (a3)), (4, .int (a4)), (5, .int (a5))]) hx hb dX10_append_118 hl (k := 1) rfl (nI_1 _) (by decide) rfl (fun ls hl => ?_)
                refine lv_goto (tgt := 27) hx hb dX10_append_121 (by decide) ?_
                exact ih (k + 1) (va_up f7 (L + k) ((a3 >>> ((24 - (nI (8 * (k % 4)))) &&& 31)) &&& 255)) (by omega) (by omega) (by rw [iter_step (by omega)] at hR; rw [← hR]; congr 1; simp only [byteI, selI]; (first | rw [if_neg c15] | rw [if_pos c15] | skip); (first | rw [if_neg c31] | rw [if_pos c31] | skip); (first | rw [if_neg c37] | rw [if_pos c37] | skip); (first | rw [if_neg c48] | rw [if_pos c48] | skip); (first | rw [if_neg c59] | rw [if_pos c59] | skip); try rfl) _ _ _ hP hD hS (lv_sub hl [0, 2, 3, 4, 5, 6, 7] rfl)
            ·
              have c48 : ¬ 8 ≤ k := fun h9 => c48 ((nI_leI (a := 8) (b := k) (by omega) (by omega)).mpr h9)
              refine lv_iload_n hx hb dX10_append_51 rfl (lv_at hl 3 rfl) ?_
              refine lv_goto (tgt := 80) hx hb dX10_append_52 (by decide) ?_
              refine lv_istore (lv' := [(7, .int (a2)), (6, .int (nI k)), (0, .ref (b 0)), (1, .int (a1)), (2, .int (a2)), (3, .int (a3)), (4, .int (a4)), (5, .int (a5))]) hx hb dX10_append_80 hl (by decide) rfl (fun ls hl => ?_)
              refine lv_aload_n hx hb dX10_append_82 rfl (lv_at hl 2 rfl) ?_
              refine va_get (D := D) (ci := 10) (v := .ref (b 7)) (C := RX10) (T := TX10) (N := 19) hx hb hts i10 hown hK hP 0 rfl rfl 7 (by decide) w3 (fun _ h9 => h9) rfl dX10_append_83 ?_
              refine lv_aload_n hx hb dX10_append_86 rfl (lv_at hl 2 rfl) ?_
              refine va_get (D := D) (ci := 10) (v := .int (nI (L + k))) (C := RX10) (T := TX10) (N := 19) hx hb hts i10 hown hK hP 0 rfl rfl 8 (by decide) w2 (fun _ h9 => h9) rfl dX10_append_87 ?_
              refine lv_iload hx hb dX10_append_90 (lv_at hl 0 rfl) ?_
              refine lv_bipush (v := 24) hx hb dX10_append_92 (by decide) ?_
              refine lv_bipush (v := 8) hx hb dX10_append_94 (by decide) ?_
              refine lv_iload hx hb dX10_append_96 (lv_at hl 1 rfl) ?_
              refine lv_iconst (v := 4) hx hb dX10_append_98 (by decide) ?_
              refine lv_irem hx hb dX10_append_99 (by decide) ?_
              refine endI (r := nI (k % 4)) (rem4 (by omega)) ?_
              refine lv_imul hx hb dX10_append_100 ?_
              refine endI (r := nI (8 * (k % 4))) (pk_mul _ _) ?_
              refine lv_isub hx hb dX10_append_101 ?_
              refine lv_ishr hx hb dX10_append_102 ?_
              refine lv_sipush (v := 255) hx hb dX10_append_103 (by decide) ?_
              refine lv_iand hx hb dX10_append_106 ?_
              refine astI hx hb hK hP hD hS 7 0 rfl rfl (L + k) rfl (by omega) (by decide) dX10_append_107 (fun H locs hP hD hS => ?_)
              have hP : va_P D vwCl (REF T b (yS (yS (va_up y 7 (va_up f7 (L + k) ((a2 >>> ((24 - (nI (8 * (k % 4)))) &&& 31)) &&& 255))) 3 0) 1 (nI (L + k))) w) H := hP
              have hD : va_D A (REF T b (yS (yS (va_up y 7 (va_up f7 (L + k) ((a2 >>> ((24 - (nI (8 * (k % 4)))) &&& 31)) &&& 255))) 3 0) 1 (nI (L + k))) w) := hD
              refine lv_aload_n hx hb dX10_append_108 rfl (lv_at hl 2 rfl) ?_
              refine lv_dup hx hb dX10_append_109 rfl ?_
              refine va_get (D := D) (ci := 10) (v := .int (nI (L + k))) (C := RX10) (T := TX10) (N := 19) hx hb hts i10 hown hK hP 0 rfl rfl 8 (by decide) w2 (fun _ h9 => h9) rfl dX10_append_110 ?_
              refine lv_iconst (v := 1) hx hb dX10_append_113 (by decide) ?_
              refine lv_iadd hx hb dX10_append_114 ?_
              refine endI (r := nI ((L + k) + 1)) (nI_add _ _) ?_
              refine va_put (D := D) (ci := 10) (v := .int (nI ((L + k) + 1))) (ty := .int) (C := RX10) (T := TX10) (N := 19) hx hb hts i10 tyX10 tyX10_ok nmX10 hown hK hP hD hS 0 rfl rfl 8 (by decide) w2 (fun _ h9 => h9) rfl (by decide +kernel) rfl rfl (Nat.le_of_ble_eq_true rfl) dX10_append_115 (fun H locs hP hD hS => ?_)
              have hP : va_P D vwCl (REF T b (yS (yS (va_up y 7 (va_up f7 (L + k) ((a2 >>> ((24 - (nI (8 * (k % 4)))) &&& 31)) &&& 255))) 3 0) 1 (nI ((L + k) + 1))) w) H := hP
              have hD : va_D A (REF T b (yS (yS (va_up y 7 (va_up f7 (L + k) ((a2 >>> ((24 - (nI (8 * (k % 4)))) &&& 31)) &&& 255))) 3 0) 1 (nI ((L + k) + 1))) w) := hD
              refine lv_iinc (v := nI (k + 1)) (lv' := [(6, .int (nI (k + 1))), (7, .int (a2)), (0, .ref (b 0)), (1, .int (a1)), (2, .int (a2)), (3, .int (a3)), (4, .int (a4)), (5, .int (a5))]) hx hb dX10_append_118 hl (k := 1) rfl (nI_1 _) (by decide) rfl (fun ls hl => ?_)
              refine lv_goto (tgt := 27) hx hb dX10_append_121 (by decide) ?_
              exact ih (k + 1) (va_up f7 (L + k) ((a2 >>> ((24 - (nI (8 * (k % 4)))) &&& 31)) &&& 255)) (by omega) (by omega) (by rw [iter_step (by omega)] at hR; rw [← hR]; congr 1; simp only [byteI, selI]; (first | rw [if_neg c15] | rw [if_pos c15] | skip); (first | rw [if_neg c31] | rw [if_pos c31] | skip); (first | rw [if_neg c37] | rw [if_pos c37] | skip); (first | rw [if_neg c48] | rw [if_pos c48] | skip); try rfl) _ _ _ hP hD hS (lv_sub hl [0, 2, 3, 4, 5, 6, 7] rfl)
          ·
            have c37 : ¬ 4 ≤ k := fun h9 => c37 ((nI_leI (a := 4) (b := k) (by omega) (by omega)).mpr h9)
            refine lv_iload_n hx hb dX10_append_40 rfl (lv_at hl 2 rfl) ?_
            refine lv_goto (tgt := 80) hx hb dX10_append_41 (by decide) ?_
            refine lv_istore (lv' := [(7, .int (a1)), (6, .int (nI k)), (0, .ref (b 0)), (1, .int (a1)), (2, .int (a2)), (3, .int (a3)), (4, .int (a4)), (5, .int (a5))]) hx hb dX10_append_80 hl (by decide) rfl (fun ls hl => ?_)
            refine lv_aload_n hx hb dX10_append_82 rfl (lv_at hl 2 rfl) ?_
            refine va_get (D := D) (ci := 10) (v := .ref (b 7)) (C := RX10) (T := TX10) (N := 19) hx hb hts i10 hown hK hP 0 rfl rfl 7 (by decide) w3 (fun _ h9 => h9) rfl dX10_append_83 ?_
            refine lv_aload_n hx hb dX10_append_86 rfl (lv_at hl 2 rfl) ?_
            refine va_get (D := D) (ci := 10) (v := .int (nI (L + k))) (C := RX10) (T := TX10) (N := 19) hx hb hts i10 hown hK hP 0 rfl rfl 8 (by decide) w2 (fun _ h9 => h9) rfl dX10_append_87 ?_
            refine lv_iload hx hb dX10_append_90 (lv_at hl 0 rfl) ?_
            refine lv_bipush (v := 24) hx hb dX10_append_92 (by decide) ?_
            refine lv_bipush (v := 8) hx hb dX10_append_94 (by decide) ?_
            refine lv_iload hx hb dX10_append_96 (lv_at hl 1 rfl) ?_
            refine lv_iconst (v := 4) hx hb dX10_append_98 (by decide) ?_
            refine lv_irem hx hb dX10_append_99 (by decide) ?_
            refine endI (r := nI (k % 4)) (rem4 (by omega)) ?_
            refine lv_imul hx hb dX10_append_100 ?_
            refine endI (r := nI (8 * (k % 4))) (pk_mul _ _) ?_
            refine lv_isub hx hb dX10_append_101 ?_
            refine lv_ishr hx hb dX10_append_102 ?_
            refine lv_sipush (v := 255) hx hb dX10_append_103 (by decide) ?_
            refine lv_iand hx hb dX10_append_106 ?_
            refine astI hx hb hK hP hD hS 7 0 rfl rfl (L + k) rfl (by omega) (by decide) dX10_append_107 (fun H locs hP hD hS => ?_)
            have hP : va_P D vwCl (REF T b (yS (yS (va_up y 7 (va_up f7 (L + k) ((a1 >>> ((24 - (nI (8 * (k % 4)))) &&& 31)) &&& 255))) 3 0) 1 (nI (L + k))) w) H := hP
            have hD : va_D A (REF T b (yS (yS (va_up y 7 (va_up f7 (L + k) ((a1 >>> ((24 - (nI (8 * (k % 4)))) &&& 31)) &&& 255))) 3 0) 1 (nI (L + k))) w) := hD
            refine lv_aload_n hx hb dX10_append_108 rfl (lv_at hl 2 rfl) ?_
            refine lv_dup hx hb dX10_append_109 rfl ?_
            refine va_get (D := D) (ci := 10) (v := .int (nI (L + k))) (C := RX10) (T := TX10) (N := 19) hx hb hts i10 hown hK hP 0 rfl rfl 8 (by decide) w2 (fun _ h9 => h9) rfl dX10_append_110 ?_
            refine lv_iconst (v := 1) hx hb dX10_append_113 (by decide) ?_
            refine lv_iadd hx hb dX10_append_114 ?_
            refine endI (r := nI ((L + k) + 1)) (nI_add _ _) ?_
            refine va_put (D := D) (ci := 10) (v := .int (nI ((L + k) + 1))) (ty := .int) (C := RX10) (T := TX10) (N := 19) hx hb hts i10 tyX10 tyX10_ok nmX10 hown hK hP hD hS 0 rfl rfl 8 (by decide) w2 (fun _ h9 => h9) rfl (by decide +kernel) rfl rfl (Nat.le_of_ble_eq_true rfl) dX10_append_115 (fun H locs hP hD hS => ?_)
            have hP : va_P D vwCl (REF T b (yS (yS (va_up y 7 (va_up f7 (L + k) ((a1 >>> ((24 - (nI (8 * (k % 4)))) &&& 31)) &&& 255))) 3 0) 1 (nI ((L + k) + 1))) w) H := hP
            have hD : va_D A (REF T b (yS (yS (va_up y 7 (va_up f7 (L + k) ((a1 >>> ((24 - (nI (8 * (k % 4)))) &&& 31)) &&& 255))) 3 0) 1 (nI ((L + k) + 1))) w) := hD
            refine lv_iinc (v := nI (k + 1)) (lv' := [(6, .int (nI (k + 1))), (7, .int (a1)), (0, .ref (b 0)), (1, .int (a1)), (2, .int (a2)), (3, .int (a3)), (4, .int (a4)), (5, .int (a5))]) hx hb dX10_append_118 hl (k := 1) rfl (nI_1 _) (by decide) rfl (fun ls hl => ?_)
            refine lv_goto (tgt := 27) hx hb dX10_append_121 (by decide) ?_
            exact ih (k + 1) (va_up f7 (L + k) ((a1 >>> ((24 - (nI (8 * (k % 4)))) &&& 31)) &&& 255)) (by omega) (by omega) (by rw [iter_step (by omega)] at hR; rw [← hR]; congr 1; simp only [byteI, selI]; (first | rw [if_neg c15] | rw [if_pos c15] | skip); (first | rw [if_neg c31] | rw [if_pos c31] | skip); (first | rw [if_neg c37] | rw [if_pos c37] | skip); try rfl) _ _ _ hP hD hS (lv_sub hl [0, 2, 3, 4, 5, 6, 7] rfl)
    rw [app_enter hL] at hP hD
    exact L27 _ 0 (y 7) (Nat.lt_succ_self _) (by omega) (by rfl) _ _ _ hP hD hS (lv_sub hl [0, 1, 2, 3, 4, 5, 6] rfl)
  ·
    have c15 : ¬ (L + 20) ≤ 600 := fun h9 => c15 ((nI_leI (a := (L + 20)) (b := 600) (by omega) (by omega)).mpr h9)
    refine lv_aload_n hx hb dX10_append_18 rfl (lv_at hl 0 rfl) ?_
    refine lv_iconst (v := 1) hx hb dX10_append_19 (by decide) ?_
    refine wrVi (As := [.int (1)]) (rest := []) ⟨hx, hb, hml, hown, hts⟩ (c_X10_fails l D T b (yS y 3 0) w 1 _) (cwV 1 hts gX10_append_X10_fails rfl rfl rfl (by decide +kernel) ⟨Nat.le_of_ble_eq_true rfl, Nat.le_of_ble_eq_true rfl⟩) (Foc.rfl _ _) hK hP hD hS hA 0 rfl rfl rfl hl.1 rfl (Nat.le_of_ble_eq_true rfl) ⟨Nat.zero_le _, Nat.zero_le _⟩ dX10_append_20 (fun H locs hP hD hS => ?_)
    have hP : va_P D vwCl (REF T b (yS (yS y 3 0) 3 1) w) H := hP
    have hD : va_D A (REF T b (yS (yS y 3 0) 3 1) w) := hD
    refine endI (r := if L + 20 ≤ 600 then nI (L + 20) else 0) (by first | (rw [if_pos (by omega), hk20]) | (rw [if_neg (by omega)])) ?_
    have hE : (yS (yS y 3 0) 3 1) = (if L + 20 ≤ 600 then yS (yS (va_up y 7 (appR a1 a2 a3 a4 a5 L (y 7))) 3 0) 1 (nI (L + 20)) else yS y 3 1) := by first | (rw [if_pos (by omega), ← hR, hk20]) | (rw [if_neg (by omega), yS_same])
    exact hret _ _ _ _ dX10_append_23 (by rw [← hE]; exact hP) (by rw [← hE]; exact hD) hS

set_option maxHeartbeats 4000000 in
set_option maxRecDepth 100000 in
theorem c_X10_shorten (l : Launch) (D : va_G) (T : Nat → ClassId) (b : Nat → Nat) (y : Nat → Nat → Int32) (w : Int64) (z : Int32) (L : Nat) (hL : y 0 1 = nI L) (hL2 : L ≤ 600) (sz : Nat) : Met l yX10_shorten wsX10_shorten ({ frames := 1, cells := 0, slots := 0, locals := 22 } : Room) (va_Pc [.ref (b 0), .int (z)] (PS D T (REF T b y w) sz)) (va_Qi (fun r9 (_ : Unit) => r9 = (if rg z 0 (nI L) then z else 0)) (fun _ t => QS D T (va_A (REF T b y w) sz) (REF T b (if rg z 0 (nI L) then yS (yS y 3 0) 1 z else yS y 3 1) w) t) (va_A (REF T b y w) sz)) 0 0 (va_A (REF T b y w) sz) := by
  refine metSi (cc := cX10_shorten) (maxL := 2) (ty := .int) (by decide) rfl (by rfl) (Nat.le_of_ble_eq_true rfl) ?_
  intro p e s m args below meth c Q ls A hx hb hml hown hts hP hK hD hA hS hl hret
  have hown : s.vm.findClass RX10 = some m.cls := hown
  have hl : lv_has ls 2 [(0, .ref (b 0)), (1, .int (z))] := hl
  have i10 : ∀ w ∈ wsX100, w ∈ wsX10_shorten := by decide +kernel
  have w1 := hts (Cond.fieldLink RX10 51 "MoonComplaintWindowModel" "thrown" "I") (List.mem_of_getElem? (i := 1) rfl)
  have w2 := hts (Cond.fieldLink RX10 166 "MoonComplaintWindowModel" "length" "I") (List.mem_of_getElem? (i := 2) rfl)
  refine lv_aload_n hx hb dX10_shorten_0 rfl (lv_at hl 0 rfl) ?_
  refine lv_iconst (v := 0) hx hb dX10_shorten_1 (by decide) ?_
  refine va_put (D := D) (ci := 10) (v := .int (0)) (ty := .int) (C := RX10) (T := TX10) (N := 19) hx hb hts i10 tyX10 tyX10_ok nmX10 hown hK hP hD hS 0 rfl rfl 10 (by decide) w1 (fun _ h9 => h9) rfl (by decide +kernel) rfl rfl (Nat.le_of_ble_eq_true rfl) dX10_shorten_2 (fun H locs hP hD hS => ?_)
  have hP : va_P D vwCl (REF T b (yS y 3 0) w) H := hP
  have hD : va_D A (REF T b (yS y 3 0) w) := hD
  refine lv_iload_n hx hb dX10_shorten_5 rfl (lv_at hl 1 rfl) ?_
  refine lv_iconst (v := 0) hx hb dX10_shorten_6 (by decide) ?_
  refine lv_aload_n hx hb dX10_shorten_7 rfl (lv_at hl 0 rfl) ?_
  refine va_get (D := D) (ci := 10) (v := .int (y 0 1)) (C := RX10) (T := TX10) (N := 19) hx hb hts i10 hown hK hP 0 rfl rfl 8 (by decide) w2 (fun _ h9 => h9) rfl dX10_shorten_8 ?_
  refine endI (r := nI L) (hL) ?_
  refine rdT (As := [.int (z), .int (0), .int (nI L)]) (rest := []) ⟨hx, hb, hml, hown, hts⟩ (c_X10_in l D T z 0 (nI L) ) (va_cwS 3 hts gX10_shorten_X10_in rfl rfl rfl (by decide +kernel) ⟨Nat.le_of_ble_eq_true rfl, Nat.le_of_ble_eq_true rfl⟩) rfl hl.1 rfl (Nat.le_of_ble_eq_true rfl) ⟨Nat.zero_le _, Nat.zero_le _⟩ dX10_shorten_11 ?_
  refine lv_if_ne (tgt := 23) hx hb dX10_shorten_14 (by decide) (fun c14 => ?_) (fun c14 => ?_)
  ·
    have c14 := bI_n0.mp c14
    refine lv_aload_n hx hb dX10_shorten_23 rfl (lv_at hl 0 rfl) ?_
    refine lv_iload_n hx hb dX10_shorten_24 rfl (lv_at hl 1 rfl) ?_
    refine va_put (D := D) (ci := 10) (v := .int (z)) (ty := .int) (C := RX10) (T := TX10) (N := 19) hx hb hts i10 tyX10 tyX10_ok nmX10 hown hK hP hD hS 0 rfl rfl 8 (by decide) w2 (fun _ h9 => h9) rfl (by decide +kernel) rfl rfl (Nat.le_of_ble_eq_true rfl) dX10_shorten_25 (fun H locs hP hD hS => ?_)
    have hP : va_P D vwCl (REF T b (yS (yS y 3 0) 1 z) w) H := hP
    have hD : va_D A (REF T b (yS (yS y 3 0) 1 z) w) := hD
    refine lv_aload_n hx hb dX10_shorten_28 rfl (lv_at hl 0 rfl) ?_
    refine va_get (D := D) (ci := 10) (v := .int (z)) (C := RX10) (T := TX10) (N := 19) hx hb hts i10 hown hK hP 0 rfl rfl 8 (by decide) w2 (fun _ h9 => h9) rfl dX10_shorten_29 ?_
    refine endI (r := if rg z 0 (nI L) then z else 0) (by simp [c14]) ?_
    have hE : (yS (yS y 3 0) 1 z) = (if rg z 0 (nI L) then yS (yS y 3 0) 1 z else yS y 3 1) := by simp [yS_same, c14]
    exact hret _ _ _ _ dX10_shorten_32 (by rw [← hE]; exact hP) (by rw [← hE]; exact hD) hS
  ·
    have c14 := bI_0.mp c14
    refine lv_aload_n hx hb dX10_shorten_17 rfl (lv_at hl 0 rfl) ?_
    refine lv_iconst (v := 1) hx hb dX10_shorten_18 (by decide) ?_
    refine wrVi (As := [.int (1)]) (rest := []) ⟨hx, hb, hml, hown, hts⟩ (c_X10_fails l D T b (yS y 3 0) w 1 _) (cwV 1 hts gX10_shorten_X10_fails rfl rfl rfl (by decide +kernel) ⟨Nat.le_of_ble_eq_true rfl, Nat.le_of_ble_eq_true rfl⟩) (Foc.rfl _ _) hK hP hD hS hA 0 rfl rfl rfl hl.1 rfl (Nat.le_of_ble_eq_true rfl) ⟨Nat.zero_le _, Nat.zero_le _⟩ dX10_shorten_19 (fun H locs hP hD hS => ?_)
    have hP : va_P D vwCl (REF T b (yS (yS y 3 0) 3 1) w) H := hP
    have hD : va_D A (REF T b (yS (yS y 3 0) 3 1) w) := hD
    refine endI (r := if rg z 0 (nI L) then z else 0) (by simp [c14]) ?_
    have hE : (yS (yS y 3 0) 3 1) = (if rg z 0 (nI L) then yS (yS y 3 0) 1 z else yS y 3 1) := by simp [yS_same, c14]
    exact hret _ _ _ _ dX10_shorten_22 (by rw [← hE]; exact hP) (by rw [← hE]; exact hD) hS
