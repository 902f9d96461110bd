set_option maxHeartbeats 4000000 in
set_option maxRecDepth 100000 in
theorem c_X10_thrown (l : Launch) (D : va_G) (T : Nat → ClassId) (b : Nat → Nat) (y : Nat → Nat → Int32) (w : Int64) : Met l yX10_thrown wsX10_thrown ({ frames := 0, cells := 0, slots := 0, locals := 0 } : Room) (va_Pc [.ref (b 0)] (PR D T (REF T b y w))) (QcRead (y 0 3)) 0 0 (fun _ => False) := by
  refine metR (cc := cX10_thrown) (maxL := 1) (ty := .int) (by decide) rfl (by rfl) (Nat.le_of_ble_eq_true rfl) ?_
  intro p e s m args below meth c Q ls hx hb hml hown hts hP hK hl hret
  have hown : s.vm.findClass RX10 = some m.cls := hown
  have hl : lv_has ls 1 [(0, .ref (b 0))] := hl
  have i10 : ∀ w ∈ wsX100, w ∈ wsX10_thrown := by decide +kernel
  have w1 := hts (Cond.fieldLink RX10 51 "MoonComplaintWindowModel" "thrown" "I") (List.mem_of_getElem? (i := 1) rfl)
  refine lv_aload_n hx hb dX10_thrown_0 rfl (lv_at hl 0 rfl) ?_
  refine va_get (D := D) (ci := 10) (v := .int (y 0 3)) (C := RX10) (T := TX10) (N := 19) hx hb hts i10 hown hK hP 0 rfl rfl 10 (by decide) w1 (fun _ h9 => h9) rfl dX10_thrown_1 ?_
  refine endI (r := y 0 3) (by first | rfl | (simp [yS_same, true_and]; done) | (skip; simp [yS_same, true_and]; done)) ?_
  exact hret ls _ dX10_thrown_4

set_option maxHeartbeats 4000000 in
set_option maxRecDepth 100000 in
theorem c_X10_fails (l : Launch) (D : va_G) (T : Nat → ClassId) (b : Nat → Nat) (y : Nat → Nat → Int32) (w : Int64) (z : Int32) (sz : Nat) : Met l yX10_fails wsX10_fails ({ frames := 0, cells := 0, slots := 0, locals := 0 } : Room) (va_Pc [.ref (b 0), .int (z)] (PS D T (REF T b y w) sz)) (va_Qi (fun r9 (_ : Unit) => r9 = 0) (fun _ t => QS D T (va_A (REF T b y w) sz) (REF T b (yS y 3 z) w) t) (va_A (REF T b y w) sz)) 0 0 (va_A (REF T b y w) sz) := by
  refine metSi (cc := cX10_fails) (maxL := 2) (ty := .int) (by decide) rfl (by rfl) (Nat.le_of_ble_eq_true rfl) ?_
  intro p e s m args below meth c Q ls A hx hb hml hown hts hP hK hD hA hS hl hret
  have hown : s.vm.findClass RX10 = some m.cls := hown
  have hl : lv_has ls 2 [(0, .ref (b 0)), (1, .int (z))] := hl
  have i10 : ∀ w ∈ wsX100, w ∈ wsX10_fails := by decide +kernel
  have w1 := hts (Cond.fieldLink RX10 51 "MoonComplaintWindowModel" "thrown" "I") (List.mem_of_getElem? (i := 1) rfl)
  refine lv_aload_n hx hb dX10_fails_0 rfl (lv_at hl 0 rfl) ?_
  refine lv_iload_n hx hb dX10_fails_1 rfl (lv_at hl 1 rfl) ?_
  refine va_put (D := D) (ci := 10) (v := .int (z)) (ty := .int) (C := RX10) (T := TX10) (N := 19) hx hb hts i10 tyX10 tyX10_ok nmX10 hown hK hP hD hS 0 rfl rfl 10 (by decide) w1 (fun _ h9 => h9) rfl (by decide +kernel) rfl rfl (Nat.le_of_ble_eq_true rfl) dX10_fails_2 (fun H locs hP hD hS => ?_)
  have hP : va_P D vwCl (REF T b (yS y 3 z) w) H := hP
  have hD : va_D A (REF T b (yS y 3 z) w) := hD
  refine lv_iconst (v := 0) hx hb dX10_fails_5 (by decide) ?_
  refine endI (r := 0) (by first | rfl | (simp [yS_same, true_and]; done) | (skip; simp [yS_same, true_and]; done)) ?_
  exact hret _ _ _ _ dX10_fails_6 hP hD hS

set_option maxHeartbeats 4000000 in
set_option maxRecDepth 100000 in
theorem c_X10_isFailed (l : Launch) (D : va_G) (T : Nat → ClassId) (b : Nat → Nat) (y : Nat → Nat → Int32) (w : Int64) (z : Int32) (sz : Nat) : Met l yX10_isFailed wsX10_isFailed ({ frames := 0, cells := 0, slots := 0, locals := 0 } : Room) (va_Pc [.ref (b 0), .int (z)] (PS D T (REF T b y w) sz)) (va_Qi (fun r9 (_ : Unit) => r9 = (bI false)) (fun _ t => QS D T (va_A (REF T b y w) sz) (REF T b (yS y 3 z) w) t) (va_A (REF T b y w) sz)) 0 0 (va_A (REF T b y w) sz) := by
  refine metSi (cc := cX10_isFailed) (maxL := 2) (ty := .boolean) (by decide) rfl (by exact bI_nb _) (Nat.le_of_ble_eq_true rfl) ?_
  intro p e s m args below meth c Q ls A hx hb hml hown hts hP hK hD hA hS hl hret
  have hown : s.vm.findClass RX10 = some m.cls := hown
  have hl : lv_has ls 2 [(0, .ref (b 0)), (1, .int (z))] := hl
  have i10 : ∀ w ∈ wsX100, w ∈ wsX10_isFailed := by decide +kernel
  have w1 := hts (Cond.fieldLink RX10 51 "MoonComplaintWindowModel" "thrown" "I") (List.mem_of_getElem? (i := 1) rfl)
  refine lv_aload_n hx hb dX10_isFailed_0 rfl (lv_at hl 0 rfl) ?_
  refine lv_iload_n hx hb dX10_isFailed_1 rfl (lv_at hl 1 rfl) ?_
  refine va_put (D := D) (ci := 10) (v := .int (z)) (ty := .int) (C := RX10) (T := TX10) (N := 19) hx hb hts i10 tyX10 tyX10_ok nmX10 hown hK hP hD hS 0 rfl rfl 10 (by decide) w1 (fun _ h9 => h9) rfl (by decide +kernel) rfl rfl (Nat.le_of_ble_eq_true rfl) dX10_isFailed_2 (fun H locs hP hD hS => ?_)
  have hP : va_P D vwCl (REF T b (yS y 3 z) w) H := hP
  have hD : va_D A (REF T b (yS y 3 z) w) := hD
  refine lv_iconst (v := 0) hx hb dX10_isFailed_5 (by decide) ?_
  refine endI (r := bI false) (by first | rfl | (simp [yS_same, true_and]; done) | (skip; simp [yS_same, true_and]; done)) ?_
  exact hret _ _ _ _ dX10_isFailed_6 hP hD hS

set_option maxHeartbeats 4000000 in
set_option maxRecDepth 100000 in
theorem c_X10_takesSpare (l : Launch) (D : va_G) (T : Nat → ClassId) (b : Nat → Nat) (y : Nat → Nat → Int32) (w : Int64) (sz : Nat) : Met l yX10_takesSpare wsX10_takesSpare ({ frames := 1, cells := 0, slots := 0, locals := 24 } : Room) (va_Pc [.ref (b 0)] (PS D T (REF T b y w) sz)) (va_Qv (fun (_ : Unit) => True) (fun _ t => QS D T (va_A (REF T b y w) sz) (REF T b (va_up y 3 (rLay (y 1) 0 0 (y 3))) w) t) (va_A (REF T b y w) sz)) 0 0 (va_A (REF T b y w) sz) := by
  refine metSv (cc := cX10_takesSpare) (maxL := 1) (by decide) rfl (Nat.le_of_ble_eq_true rfl) ?_
  intro p e s m args below meth c Q ls A hx hb hml hown hts hP hK hD hA hS hl hret
  have hown : s.vm.findClass RX10 = some m.cls := hown
  have hl : lv_has ls 1 [(0, .ref (b 0))] := hl
  have i10 : ∀ w ∈ wsX100, w ∈ wsX10_takesSpare := by decide +kernel
  have w1 := hts (Cond.fieldLink RX10 7 "MoonComplaintWindowModel" "now" "[I") (List.mem_of_getElem? (i := 1) rfl)
  have w2 := hts (Cond.fieldLink RX10 16 "MoonComplaintWindowModel" "spare" "[I") (List.mem_of_getElem? (i := 2) rfl)
  refine lv_aload_n hx hb dX10_takesSpare_0 rfl (lv_at hl 0 rfl) ?_
  refine va_get (D := D) (ci := 10) (v := .ref (b 1)) (C := RX10) (T := TX10) (N := 19) hx hb hts i10 hown hK hP 0 rfl rfl 0 (by decide) w1 (fun _ h9 => h9) rfl dX10_takesSpare_1 ?_
  refine lv_iconst (v := 0) hx hb dX10_takesSpare_4 (by decide) ?_
  refine lv_aload_n hx hb dX10_takesSpare_5 rfl (lv_at hl 0 rfl) ?_
  refine va_get (D := D) (ci := 10) (v := .ref (b 3)) (C := RX10) (T := TX10) (N := 19) hx hb hts i10 hown hK hP 0 rfl rfl 2 (by decide) w2 (fun _ h9 => h9) rfl dX10_takesSpare_6 ?_
  refine lv_iconst (v := 0) hx hb dX10_takesSpare_9 (by decide) ?_
  refine wrSv (As := [.ref (b 1), .int (0), .ref (b 3), .int (0)]) (rest := []) ⟨hx, hb, hml, hown, hts⟩ (c_X10_layRow l D T (b 1) 202 (y 1) (b 3) 202 (y 3) 0 0 (by first | omega | assumption | decide) (by first | omega | assumption | decide) (by first | omega | assumption | decide) (by first | omega | assumption | decide) _) (va_cwS 4 hts gX10_takesSpare_X10_layRow rfl rfl rfl (by decide +kernel) ⟨Nat.le_of_ble_eq_true rfl, Nat.le_of_ble_eq_true rfl⟩) (show Foc (REF T b y w) _ (REF T b (va_up y 3 (rLay (y 1) 0 0 (y 3))) w) _ from Foc.two 3 1 rfl rfl) hK hP hD hS hA rfl hl.1 rfl (Nat.le_of_ble_eq_true rfl) ⟨Nat.zero_le _, Nat.zero_le _⟩ dX10_takesSpare_10 (fun H locs hP hD hS => ?_)
  have hP : va_P D vwCl (REF T b (va_up y 3 (rLay (y 1) 0 0 (y 3))) w) H := hP
  have hD : va_D A (REF T b (va_up y 3 (rLay (y 1) 0 0 (y 3))) w) := hD
  exact hret _ _ _ _ dX10_takesSpare_13 hP hD hS

set_option maxHeartbeats 4000000 in
set_option maxRecDepth 100000 in
theorem c_X10_isClerk (l : Launch) (D : va_G) (T : Nat → ClassId) (b : Nat → Nat) (y : Nat → Nat → Int32) (w : Int64) (z : Int32) (K : Nat) (hKn : y 1 5 = nI K) (hK2 : K ≤ 5) : Met l yX10_isClerk wsX10_isClerk ({ frames := 1, cells := 0, slots := 0, locals := 22 } : Room) (va_Pc [.ref (b 0), .int (z)] (PR D T (REF T b y w))) (QcRead (bI (inN z K))) 0 0 (fun _ => False) := by
  refine metR (cc := cX10_isClerk) (maxL := 2) (ty := .boolean) (by decide) rfl (by exact bI_nb _) (Nat.le_of_ble_eq_true rfl) ?_
  intro p e s m args below meth c Q ls hx hb hml hown hts hP hK hl hret
  have hown : s.vm.findClass RX10 = some m.cls := hown
  have hl : lv_has ls 2 [(0, .ref (b 0)), (1, .int (z))] := hl
  have i10 : ∀ w ∈ wsX100, w ∈ wsX10_isClerk := by decide +kernel
  have w1 := hts (Cond.fieldLink RX10 7 "MoonComplaintWindowModel" "now" "[I") (List.mem_of_getElem? (i := 1) rfl)
  refine lv_iload_n hx hb dX10_isClerk_0 rfl (lv_at hl 1 rfl) ?_
  refine lv_iconst (v := 0) hx hb dX10_isClerk_1 (by decide) ?_
  refine lv_aload_n hx hb dX10_isClerk_2 rfl (lv_at hl 0 rfl) ?_
  refine va_get (D := D) (ci := 10) (v := .ref (b 1)) (C := RX10) (T := TX10) (N := 19) hx hb hts i10 hown hK hP 0 rfl rfl 0 (by decide) w1 (fun _ h9 => h9) rfl dX10_isClerk_3 ?_
  refine lv_iconst (v := 5) hx hb dX10_isClerk_6 (by decide) ?_
  refine aldI hx hb hK hP 1 0 rfl rfl (5) rfl (by omega) (by decide) dX10_isClerk_7 ?_
  refine endI (r := nI K) (hKn) ?_
  refine lv_iconst (v := 1) hx hb dX10_isClerk_8 (by decide) ?_
  refine lv_isub hx hb dX10_isClerk_9 ?_
  refine rdT (As := [.int (z), .int (0), .int ((nI K) - 1)]) (rest := []) ⟨hx, hb, hml, hown, hts⟩ (c_X10_in l D T z 0 ((nI K) - 1) ) (va_cwS 3 hts gX10_isClerk_X10_in rfl rfl rfl (by decide +kernel) ⟨Nat.le_of_ble_eq_true rfl, Nat.le_of_ble_eq_true rfl⟩) rfl hl.1 rfl (Nat.le_of_ble_eq_true rfl) ⟨Nat.zero_le _, Nat.zero_le _⟩ dX10_isClerk_10 ?_
  refine endI (r := bI (inN z K)) (by exact congrArg bI (inN_R (by omega))) ?_
  exact hret ls _ dX10_isClerk_13

set_option maxHeartbeats 4000000 in
set_option maxRecDepth 100000 in
theorem c_X10_isComplaint (l : Launch) (D : va_G) (T : Nat → ClassId) (b : Nat → Nat) (y : Nat → Nat → Int32) (w : Int64) (z : Int32) (N : Nat) (hN : y 1 6 = nI N) (hN2 : N ≤ 24) : Met l yX10_isComplaint wsX10_isComplaint ({ frames := 1, cells := 0, slots := 0, locals := 22 } : Room) (va_Pc [.ref (b 0), .int (z)] (PR D T (REF T b y w))) (QcRead (bI (inN z N))) 0 0 (fun _ => False) := by
  refine metR (cc := cX10_isComplaint) (maxL := 2) (ty := .boolean) (by decide) rfl (by exact bI_nb _) (Nat.le_of_ble_eq_true rfl) ?_
  intro p e s m args below meth c Q ls hx hb hml hown hts hP hK hl hret
  have hown : s.vm.findClass RX10 = some m.cls := hown
  have hl : lv_has ls 2 [(0, .ref (b 0)), (1, .int (z))] := hl
  have i10 : ∀ w ∈ wsX100, w ∈ wsX10_isComplaint := by decide +kernel
  have w1 := hts (Cond.fieldLink RX10 7 "MoonComplaintWindowModel" "now" "[I") (List.mem_of_getElem? (i := 1) rfl)
  refine lv_iload_n hx hb dX10_isComplaint_0 rfl (lv_at hl 1 rfl) ?_
  refine lv_iconst (v := 0) hx hb dX10_isComplaint_1 (by decide) ?_
  refine lv_aload_n hx hb dX10_isComplaint_2 rfl (lv_at hl 0 rfl) ?_
  refine va_get (D := D) (ci := 10) (v := .ref (b 1)) (C := RX10) (T := TX10) (N := 19) hx hb hts i10 hown hK hP 0 rfl rfl 0 (by decide) w1 (fun _ h9 => h9) rfl dX10_isComplaint_3 ?_
  refine lv_bipush (v := 6) hx hb dX10_isComplaint_6 (by decide) ?_
  refine aldI hx hb hK hP 1 0 rfl rfl (6) rfl (by omega) (by decide) dX10_isComplaint_8 ?_
  refine endI (r := nI N) (hN) ?_
  refine lv_iconst (v := 1) hx hb dX10_isComplaint_9 (by decide) ?_
  refine lv_isub hx hb dX10_isComplaint_10 ?_
  refine rdT (As := [.int (z), .int (0), .int ((nI N) - 1)]) (rest := []) ⟨hx, hb, hml, hown, hts⟩ (c_X10_in l D T z 0 ((nI N) - 1) ) (va_cwS 3 hts gX10_isComplaint_X10_in rfl rfl rfl (by decide +kernel) ⟨Nat.le_of_ble_eq_true rfl, Nat.le_of_ble_eq_true rfl⟩) rfl hl.1 rfl (Nat.le_of_ble_eq_true rfl) ⟨Nat.zero_le _, Nat.zero_le _⟩ dX10_isComplaint_11 ?_
  refine endI (r := bI (inN z N)) (by exact congrArg bI (inN_R (by omega))) ?_
  exact hret ls _ dX10_isComplaint_14

set_option maxHeartbeats 4000000 in
set_option maxRecDepth 100000 in
theorem c_X10_complaintNumber (l : Launch) (D : va_G) (T : Nat → ClassId) (b : Nat → Nat) (y : Nat → Nat → Int32) (w : Int64) (z : Int32) (f : Nat) (N : Nat) (K : Nat) (C : Nat) (nt : Nat) (hRI : RI (y 1) N K C nt) (hf : f < 7) (sz : Nat) : Met l yX10_complaintNumber wsX10_complaintNumber ({ frames := 2, cells := 0, slots := 0, locals := 43 } : Room) (va_Pc [.ref (b 0), .int (z), .int (nI f)] (PS D T (REF T b y w) sz)) (va_Qi (fun r9 (_ : Unit) => r9 = (if inN z N then y 1 (34 + 7 * z.toNatClampNeg + f) else 0)) (fun _ t => QS D T (va_A (REF T b y w) sz) (REF T b (if inN z N then y else yS y 3 1) w) t) (va_A (REF T b y w) sz)) 0 0 (va_A (REF T b y w) sz) := by
  refine metSi (cc := cX10_complaintNumber) (maxL := 3) (ty := .int) (by decide) rfl (by rfl) (Nat.le_of_ble_eq_true rfl) ?_
  intro p e s m args below meth c Q ls A hx hb hml hown hts hP hK hD hA hS hl hret
  have hown : s.vm.findClass RX10 = some m.cls := hown
  have hl : lv_has ls 3 [(0, .ref (b 0)), (1, .int (z)), (2, .int (nI f))] := hl
  have i10 : ∀ w ∈ wsX100, w ∈ wsX10_complaintNumber := by decide +kernel
  have w1 := hts (Cond.fieldLink RX10 7 "MoonComplaintWindowModel" "now" "[I") (List.mem_of_getElem? (i := 1) rfl)
  obtain ⟨hN, hN2, hKn, hK2, hC, hC1, hC2, hn, hnt, hSo, hSK⟩ := id hRI
  refine lv_aload_n hx hb dX10_complaintNumber_0 rfl (lv_at hl 0 rfl) ?_
  refine lv_iload_n hx hb dX10_complaintNumber_1 rfl (lv_at hl 1 rfl) ?_
  refine rdV (As := [.int (z)]) (rest := []) ⟨hx, hb, hml, hown, hts⟩ (c_X10_isComplaint l D T b y w z N hN hN2) (cwV 1 hts gX10_complaintNumber_X10_isComplaint rfl rfl rfl (by decide +kernel) ⟨Nat.le_of_ble_eq_true rfl, Nat.le_of_ble_eq_true rfl⟩) hK hP 0 rfl rfl rfl hl.1 rfl (Nat.le_of_ble_eq_true rfl) ⟨Nat.zero_le _, Nat.zero_le _⟩ dX10_complaintNumber_2 ?_
  refine lv_if_eq (tgt := 19) hx hb dX10_complaintNumber_5 (by decide) (fun c5 => ?_) (fun c5 => ?_)
  ·
    have c5 := bI_0.mp c5
    refine lv_aload_n hx hb dX10_complaintNumber_19 rfl (lv_at hl 0 rfl) ?_
    refine lv_iconst (v := 1) hx hb dX10_complaintNumber_20 (by decide) ?_
    refine wrVi (As := [.int (1)]) (rest := []) ⟨hx, hb, hml, hown, hts⟩ (c_X10_fails l D T b y w 1 _) (cwV 1 hts gX10_complaintNumber_X10_fails rfl rfl rfl (by decide +kernel) ⟨Nat.le_of_ble_eq_true rfl, Nat.le_of_ble_eq_true rfl⟩) (Foc.rfl _ _) hK hP hD hS hA 0 rfl rfl rfl hl.1 rfl (Nat.le_of_ble_eq_true rfl) ⟨Nat.zero_le _, Nat.zero_le _⟩ dX10_complaintNumber_21 (fun H locs hP hD hS => ?_)
    have hP : va_P D vwCl (REF T b (yS y 3 1) w) H := hP
    have hD : va_D A (REF T b (yS y 3 1) w) := hD
    refine endI (r := if inN z N then y 1 (34 + 7 * z.toNatClampNeg + f) else 0) (by first | (rw [if_pos c5, hjc]) | (rw [if_neg (by rw [c5]; decide)])) ?_
    have hE : (yS y 3 1) = (if inN z N then y else yS y 3 1) := by first | (rw [if_pos c5]) | (rw [if_neg (by rw [c5]; decide)])
    exact hret _ _ _ _ dX10_complaintNumber_24 (by rw [← hE]; exact hP) (by rw [← hE]; exact hD) hS
  ·
    have c5 := bI_n0.mp c5
    obtain ⟨j, hj, hjz, hjc⟩ := inN_t (by omega) c5
    rw [hjz] at hl
    have hl : lv_has ls 3 [(0, .ref (b 0)), (1, .int (nI j)), (2, .int (nI f))] := hl
    refine lv_aload_n hx hb dX10_complaintNumber_8 rfl (lv_at hl 0 rfl) ?_
    refine va_get (D := D) (ci := 10) (v := .ref (b 1)) (C := RX10) (T := TX10) (N := 19) hx hb hts i10 hown hK hP 0 rfl rfl 0 (by decide) w1 (fun _ h9 => h9) rfl dX10_complaintNumber_9 ?_
    refine lv_iload_n hx hb dX10_complaintNumber_12 rfl (lv_at hl 1 rfl) ?_
    refine lv_iload_n hx hb dX10_complaintNumber_13 rfl (lv_at hl 2 rfl) ?_
    refine rdT (As := [.int (nI j), .int (nI f)]) (rest := [.ref (b 1)]) ⟨hx, hb, hml, hown, hts⟩ (c_X10_complaintAt l D T j f ) (va_cwS 2 hts gX10_complaintNumber_X10_complaintAt rfl rfl rfl (by decide +kernel) ⟨Nat.le_of_ble_eq_true rfl, Nat.le_of_ble_eq_true rfl⟩) rfl hl.1 rfl (Nat.le_of_ble_eq_true rfl) ⟨Nat.zero_le _, Nat.zero_le _⟩ dX10_complaintNumber_14 ?_
    refine aldI hx hb hK hP 1 0 rfl rfl (34 + 7 * j + f) rfl (by omega) (by decide) dX10_complaintNumber_17 ?_
    refine endI (r := if inN z N then y 1 (34 + 7 * z.toNatClampNeg + f) else 0) (by first | (rw [if_pos c5, hjc]) | (rw [if_neg (by rw [c5]; decide)])) ?_
    have hE : (y) = (if inN z N then y else yS y 3 1) := by first | (rw [if_pos c5]) | (rw [if_neg (by rw [c5]; decide)])
    exact hret _ _ _ _ dX10_complaintNumber_18 (by rw [← hE]; exact hP) (by rw [← hE]; exact hD) hS

set_option maxHeartbeats 4000000 in
set_option maxRecDepth 100000 in
theorem c_X10_hasState (l : Launch) (D : va_G) (T : Nat → ClassId) (b : Nat → Nat) (y : Nat → Nat → Int32) (w : Int64) (z : Int32) (z1 : Int32) (N : Nat) (K : Nat) (C : Nat) (nt : Nat) (hRI : RI (y 1) N K C nt) (sz : Nat) : Met l yX10_hasState wsX10_hasState ({ frames := 2, cells := 0, slots := 0, locals := 43 } : Room) (va_Pc [.ref (b 0), .int (z), .int (z1)] (PS D T (REF T b y w) sz)) (va_Qi (fun r9 (_ : Unit) => r9 = (bI (inN z N && decide (y 1 (34 + 7 * z.toNatClampNeg + 4) = z1)))) (fun _ t => QS D T (va_A (REF T b y w) sz) (REF T b (if inN z N then y else yS y 3 1) w) t) (va_A (REF T b y w) sz)) 0 0 (va_A (REF T b y w) sz) := by
  refine metSi (cc := cX10_hasState) (maxL := 3) (ty := .boolean) (by decide) rfl (by exact bI_nb _) (Nat.le_of_ble_eq_true rfl) ?_
  intro p e s m args below meth c Q ls A hx hb hml hown hts hP hK hD hA hS hl hret
  have hown : s.vm.findClass RX10 = some m.cls := hown
  have hl : lv_has ls 3 [(0, .ref (b 0)), (1, .int (z)), (2, .int (z1))] := hl
  have i10 : ∀ w ∈ wsX100, w ∈ wsX10_hasState := by decide +kernel
  have w1 := hts (Cond.fieldLink RX10 7 "MoonComplaintWindowModel" "now" "[I") (List.mem_of_getElem? (i := 1) rfl)
  obtain ⟨hN, hN2, hKn, hK2, hC, hC1, hC2, hn, hnt, hSo, hSK⟩ := id hRI
  refine lv_aload_n hx hb dX10_hasState_0 rfl (lv_at hl 0 rfl) ?_
  refine lv_iload_n hx hb dX10_hasState_1 rfl (lv_at hl 1 rfl) ?_
  refine rdV (As := [.int (z)]) (rest := []) ⟨hx, hb, hml, hown, hts⟩ (c_X10_isComplaint l D T b y w z N hN hN2) (cwV 1 hts gX10_hasState_X10_isComplaint rfl rfl rfl (by decide +kernel) ⟨Nat.le_of_ble_eq_true rfl, Nat.le_of_ble_eq_true rfl⟩) hK hP 0 rfl rfl rfl hl.1 rfl (Nat.le_of_ble_eq_true rfl) ⟨Nat.zero_le _, Nat.zero_le _⟩ dX10_hasState_2 ?_
  refine lv_if_eq (tgt := 28) hx hb dX10_hasState_5 (by decide) (fun c5 => ?_) (fun c5 => ?_)
  ·
    have c5 := bI_0.mp c5
    refine lv_aload_n hx hb dX10_hasState_28 rfl (lv_at hl 0 rfl) ?_
    refine lv_iconst (v := 1) hx hb dX10_hasState_29 (by decide) ?_
    refine wrVi (As := [.int (1)]) (rest := []) ⟨hx, hb, hml, hown, hts⟩ (c_X10_isFailed l D T b y w 1 _) (cwV 1 hts gX10_hasState_X10_isFailed rfl rfl rfl (by decide +kernel) ⟨Nat.le_of_ble_eq_true rfl, Nat.le_of_ble_eq_true rfl⟩) (Foc.rfl _ _) hK hP hD hS hA 0 rfl rfl rfl hl.1 rfl (Nat.le_of_ble_eq_true rfl) ⟨Nat.zero_le _, Nat.zero_le _⟩ dX10_hasState_30 (fun H locs hP hD hS => ?_)
    have hP : va_P D vwCl (REF T b (yS y 3 1) w) H := hP
    have hD : va_D A (REF T b (yS y 3 1) w) := hD
    refine endI (r := bI (inN z N && decide (y 1 (34 + 7 * z.toNatClampNeg + 4) = z1))) (by first | (rw [c5, hjc]; simp [bI, c5]; done) | (rw [c5]; rfl)) ?_
    have hE : (yS y 3 1) = (if inN z N then y else yS y 3 1) := by first | (rw [if_pos c5]) | (rw [if_neg (by rw [c5]; decide)])
    exact hret _ _ _ _ dX10_hasState_33 (by rw [← hE]; exact hP) (by rw [← hE]; exact hD) hS
  ·
    have c5 := bI_n0.mp c5
    obtain ⟨j, hj, hjz, hjc⟩ := inN_t (by omega) c5
    rw [hjz] at hl
    have hl : lv_has ls 3 [(0, .ref (b 0)), (1, .int (nI j)), (2, .int (z1))] := hl
    refine lv_aload_n hx hb dX10_hasState_8 rfl (lv_at hl 0 rfl) ?_
    refine va_get (D := D) (ci := 10) (v := .ref (b 1)) (C := RX10) (T := TX10) (N := 19) hx hb hts i10 hown hK hP 0 rfl rfl 0 (by decide) w1 (fun _ h9 => h9) rfl dX10_hasState_9 ?_
    refine lv_iload_n hx hb dX10_hasState_12 rfl (lv_at hl 1 rfl) ?_
    refine lv_iconst (v := 4) hx hb dX10_hasState_13 (by decide) ?_
    refine rdT (As := [.int (nI j), .int (4)]) (rest := [.ref (b 1)]) ⟨hx, hb, hml, hown, hts⟩ (c_X10_complaintAt l D T j 4 ) (va_cwS 2 hts gX10_hasState_X10_complaintAt rfl rfl rfl (by decide +kernel) ⟨Nat.le_of_ble_eq_true rfl, Nat.le_of_ble_eq_true rfl⟩) rfl hl.1 rfl (Nat.le_of_ble_eq_true rfl) ⟨Nat.zero_le _, Nat.zero_le _⟩ dX10_hasState_14 ?_
    refine aldI hx hb hK hP 1 0 rfl rfl (34 + 7 * j + 4) rfl (by omega) (by decide) dX10_hasState_17 ?_
    refine lv_iload_n hx hb dX10_hasState_18 rfl (lv_at hl 2 rfl) ?_
    refine lv_icmp_ne (tgt := 26) hx hb dX10_hasState_19 (by decide) (fun c19 => ?_) (fun c19 => ?_)
    ·
      refine lv_iconst (v := 0) hx hb dX10_hasState_26 (by decide) ?_
      refine endI (r := bI (inN z N && decide (y 1 (34 + 7 * z.toNatClampNeg + 4) = z1))) (by first | (rw [c5, hjc]; simp [bI, c5, c19]; done) | (rw [c5]; rfl)) ?_
      have hE : (y) = (if inN z N then y else yS y 3 1) := by first | (rw [if_pos c5]) | (rw [if_neg (by rw [c5]; decide)])
      exact hret _ _ _ _ dX10_hasState_27 (by rw [← hE]; exact hP) (by rw [← hE]; exact hD) hS
    ·
      refine lv_iconst (v := 1) hx hb dX10_hasState_22 (by decide) ?_
      refine lv_goto (tgt := 27) hx hb dX10_hasState_23 (by decide) ?_
      refine endI (r := bI (inN z N && decide (y 1 (34 + 7 * z.toNatClampNeg + 4) = z1))) (by first | (rw [c5, hjc]; simp [bI, c5, c19]; done) | (rw [c5]; rfl)) ?_
      have hE : (y) = (if inN z N then y else yS y 3 1) := by first | (rw [if_pos c5]) | (rw [if_neg (by rw [c5]; decide)])
      exact hret _ _ _ _ dX10_hasState_27 (by rw [← hE]; exact hP) (by rw [← hE]; exact hD) hS

set_option maxHeartbeats 4000000 in
set_option maxRecDepth 100000 in
theorem c_X10_clerkNumber (l : Launch) (D : va_G) (T : Nat → ClassId) (b : Nat → Nat) (y : Nat → Nat → Int32) (w : Int64) (z : Int32) (f : Nat) (N : Nat) (K : Nat) (C : Nat) (nt : Nat) (hRI : RI (y 1) N K C nt) (hf : f < 3) (sz : Nat) : Met l yX10_clerkNumber wsX10_clerkNumber ({ frames := 2, cells := 0, slots := 0, locals := 43 } : Room) (va_Pc [.ref (b 0), .int (z), .int (nI f)] (PS D T (REF T b y w) sz)) (va_Qi (fun r9 (_ : Unit) => r9 = (if inN z K then y 1 (19 + 3 * z.toNatClampNeg + f) else 0)) (fun _ t => QS D T (va_A (REF T b y w) sz) (REF T b (if inN z K then y else yS y 3 1) w) t) (va_A (REF T b y w) sz)) 0 0 (va_A (REF T b y w) sz) := by
  refine metSi (cc := cX10_clerkNumber) (maxL := 3) (ty := .int) (by decide) rfl (by rfl) (Nat.le_of_ble_eq_true rfl) ?_
  intro p e s m args below meth c Q ls A hx hb hml hown hts hP hK hD hA hS hl hret
  have hown : s.vm.findClass RX10 = some m.cls := hown
  have hl : lv_has ls 3 [(0, .ref (b 0)), (1, .int (z)), (2, .int (nI f))] := hl
  have i10 : ∀ w ∈ wsX100, w ∈ wsX10_clerkNumber := by decide +kernel
  have w1 := hts (Cond.fieldLink RX10 7 "MoonComplaintWindowModel" "now" "[I") (List.mem_of_getElem? (i := 1) rfl)
  obtain ⟨hN, hN2, hKn, hK2, hC, hC1, hC2, hn, hnt, hSo, hSK⟩ := id hRI
  refine lv_aload_n hx hb dX10_clerkNumber_0 rfl (lv_at hl 0 rfl) ?_
  refine lv_iload_n hx hb dX10_clerkNumber_1 rfl (lv_at hl 1 rfl) ?_
  refine rdV (As := [.int (z)]) (rest := []) ⟨hx, hb, hml, hown, hts⟩ (c_X10_isClerk l D T b y w z K hKn hK2) (cwV 1 hts gX10_clerkNumber_X10_isClerk rfl rfl rfl (by decide +kernel) ⟨Nat.le_of_ble_eq_true rfl, Nat.le_of_ble_eq_true rfl⟩) hK hP 0 rfl rfl rfl hl.1 rfl (Nat.le_of_ble_eq_true rfl) ⟨Nat.zero_le _, Nat.zero_le _⟩ dX10_clerkNumber_2 ?_
  refine lv_if_eq (tgt := 19) hx hb dX10_clerkNumber_5 (by decide) (fun c5 => ?_) (fun c5 => ?_)
  ·
    have c5 := bI_0.mp c5
    refine lv_aload_n hx hb dX10_clerkNumber_19 rfl (lv_at hl 0 rfl) ?_
    refine lv_iconst (v := 1) hx hb dX10_clerkNumber_20 (by decide) ?_
    refine wrVi (As := [.int (1)]) (rest := []) ⟨hx, hb, hml, hown, hts⟩ (c_X10_fails l D T b y w 1 _) (cwV 1 hts gX10_clerkNumber_X10_fails rfl rfl rfl (by decide +kernel) ⟨Nat.le_of_ble_eq_true rfl, Nat.le_of_ble_eq_true rfl⟩) (Foc.rfl _ _) hK hP hD hS hA 0 rfl rfl rfl hl.1 rfl (Nat.le_of_ble_eq_true rfl) ⟨Nat.zero_le _, Nat.zero_le _⟩ dX10_clerkNumber_21 (fun H locs hP hD hS => ?_)
    have hP : va_P D vwCl (REF T b (yS y 3 1) w) H := hP
    have hD : va_D A (REF T b (yS y 3 1) w) := hD
    refine endI (r := if inN z K then y 1 (19 + 3 * z.toNatClampNeg + f) else 0) (by first | (rw [if_pos c5, hjc]) | (rw [if_neg (by rw [c5]; decide)])) ?_
    have hE : (yS y 3 1) = (if inN z K then y else yS y 3 1) := by first | (rw [if_pos c5]) | (rw [if_neg (by rw [c5]; decide)])
    exact hret _ _ _ _ dX10_clerkNumber_24 (by rw [← hE]; exact hP) (by rw [← hE]; exact hD) hS
  ·
    have c5 := bI_n0.mp c5
    obtain ⟨j, hj, hjz, hjc⟩ := inN_t (by omega) c5
    rw [hjz] at hl
    have hl : lv_has ls 3 [(0, .ref (b 0)), (1, .int (nI j)), (2, .int (nI f))] := hl
    refine lv_aload_n hx hb dX10_clerkNumber_8 rfl (lv_at hl 0 rfl) ?_
    refine va_get (D := D) (ci := 10) (v := .ref (b 1)) (C := RX10) (T := TX10) (N := 19) hx hb hts i10 hown hK hP 0 rfl rfl 0 (by decide) w1 (fun _ h9 => h9) rfl dX10_clerkNumber_9 ?_
    refine lv_iload_n hx hb dX10_clerkNumber_12 rfl (lv_at hl 1 rfl) ?_
    refine lv_iload_n hx hb dX10_clerkNumber_13 rfl (lv_at hl 2 rfl) ?_
    refine rdT (As := [.int (nI j), .int (nI f)]) (rest := [.ref (b 1)]) ⟨hx, hb, hml, hown, hts⟩ (c_X10_clerkAt l D T j f ) (va_cwS 2 hts gX10_clerkNumber_X10_clerkAt rfl rfl rfl (by decide +kernel) ⟨Nat.le_of_ble_eq_true rfl, Nat.le_of_ble_eq_true rfl⟩) rfl hl.1 rfl (Nat.le_of_ble_eq_true rfl) ⟨Nat.zero_le _, Nat.zero_le _⟩ dX10_clerkNumber_14 ?_
    refine aldI hx hb hK hP 1 0 rfl rfl (19 + 3 * j + f) rfl (by omega) (by decide) dX10_clerkNumber_17 ?_
    refine endI (r := if inN z K then y 1 (19 + 3 * z.toNatClampNeg + f) else 0) (by first | (rw [if_pos c5, hjc]) | (rw [if_neg (by rw [c5]; decide)])) ?_
    have hE : (y) = (if inN z K then y else yS y 3 1) := by first | (rw [if_pos c5]) | (rw [if_neg (by rw [c5]; decide)])
    exact hret _ _ _ _ dX10_clerkNumber_18 (by rw [← hE]; exact hP) (by rw [← hE]; exact hD) hS

set_option maxHeartbeats 4000000 in
set_option maxRecDepth 100000 in
theorem c_X10_night (l : Launch) (D : va_G) (T : Nat → ClassId) (b : Nat → Nat) (y : Nat → Nat → Int32) (w : Int64) (sz : Nat) : Met l yX10_night wsX10_night ({ frames := 0, cells := 0, slots := 0, locals := 0 } : Room) (va_Pc [.ref (b 0)] (PS D T (REF T b y w) sz)) (va_Qi (fun r9 (_ : Unit) => r9 = (y 1 0)) (fun _ t => QS D T (va_A (REF T b y w) sz) (REF T b (yS y 3 0) w) t) (va_A (REF T b y w) sz)) 0 0 (va_A (REF T b y w) sz) := by
  refine metSi (cc := cX10_night) (maxL := 1) (ty := .int) (by decide) rfl (by rfl) (Nat.le_of_ble_eq_true rfl) ?_
  intro p e s m args below meth c Q ls A hx hb hml hown hts hP hK hD hA hS hl hret
  have hown : s.vm.findClass RX10 = some m.cls := hown
  have hl : lv_has ls 1 [(0, .ref (b 0))] := hl
  have i10 : ∀ w ∈ wsX100, w ∈ wsX10_night := by decide +kernel
  have w1 := hts (Cond.fieldLink RX10 51 "MoonComplaintWindowModel" "thrown" "I") (List.mem_of_getElem? (i := 1) rfl)
  have w2 := hts (Cond.fieldLink RX10 7 "MoonComplaintWindowModel" "now" "[I") (List.mem_of_getElem? (i := 2) rfl)
  refine lv_aload_n hx hb dX10_night_0 rfl (lv_at hl 0 rfl) ?_
  refine lv_iconst (v := 0) hx hb dX10_night_1 (by decide) ?_
  refine va_put (D := D) (ci := 10) (v := .int (0)) (ty := .int) (C := RX10) (T := TX10) (N := 19) hx hb hts i10 tyX10 tyX10_ok nmX10 hown hK hP hD hS 0 rfl rfl 10 (by decide) w1 (fun _ h9 => h9) rfl (by decide +kernel) rfl rfl (Nat.le_of_ble_eq_true rfl) dX10_night_2 (fun H locs hP hD hS => ?_)
  have hP : va_P D vwCl (REF T b (yS y 3 0) w) H := hP
  have hD : va_D A (REF T b (yS y 3 0) w) := hD
  refine lv_aload_n hx hb dX10_night_5 rfl (lv_at hl 0 rfl) ?_
  refine va_get (D := D) (ci := 10) (v := .ref (b 1)) (C := RX10) (T := TX10) (N := 19) hx hb hts i10 hown hK hP 0 rfl rfl 0 (by decide) w2 (fun _ h9 => h9) rfl dX10_night_6 ?_
  refine lv_iconst (v := 0) hx hb dX10_night_9 (by decide) ?_
  refine aldI hx hb hK hP 1 0 rfl rfl (0) rfl (by omega) (by decide) dX10_night_10 ?_
  refine endI (r := y 1 0) (by first | rfl | (simp [yS_same, true_and]; done) | (skip; simp [yS_same, true_and]; done)) ?_
  exact hret _ _ _ _ dX10_night_11 hP hD hS

set_option maxHeartbeats 4000000 in
set_option maxRecDepth 100000 in
theorem c_X10_glareLimit (l : Launch) (D : va_G) (T : Nat → ClassId) (b : Nat → Nat) (y : Nat → Nat → Int32) (w : Int64) (sz : Nat) : Met l yX10_glareLimit wsX10_glareLimit ({ frames := 1, cells := 0, slots := 0, locals := 21 } : Room) (va_Pc [.ref (b 0)] (PS D T (REF T b y w) sz)) (va_Qi (fun r9 (_ : Unit) => r9 = (y 1 1)) (fun _ t => QS D T (va_A (REF T b y w) sz) (REF T b (yS y 3 0) w) t) (va_A (REF T b y w) sz)) 0 0 (va_A (REF T b y w) sz) := by
  refine metSi (cc := cX10_glareLimit) (maxL := 1) (ty := .int) (by decide) rfl (by rfl) (Nat.le_of_ble_eq_true rfl) ?_
  intro p e s m args below meth c Q ls A hx hb hml hown hts hP hK hD hA hS hl hret
  have hown : s.vm.findClass RX10 = some m.cls := hown
  have hl : lv_has ls 1 [(0, .ref (b 0))] := hl
  have i10 : ∀ w ∈ wsX100, w ∈ wsX10_glareLimit := by decide +kernel
  have w1 := hts (Cond.fieldLink RX10 51 "MoonComplaintWindowModel" "thrown" "I") (List.mem_of_getElem? (i := 1) rfl)
  have w2 := hts (Cond.fieldLink RX10 7 "MoonComplaintWindowModel" "now" "[I") (List.mem_of_getElem? (i := 2) rfl)
  refine lv_aload_n hx hb dX10_glareLimit_0 rfl (lv_at hl 0 rfl) ?_
  refine lv_iconst (v := 0) hx hb dX10_glareLimit_1 (by decide) ?_
  refine va_put (D := D) (ci := 10) (v := .int (0)) (ty := .int) (C := RX10) (T := TX10) (N := 19) hx hb hts i10 tyX10 tyX10_ok nmX10 hown hK hP hD hS 0 rfl rfl 10 (by decide) w1 (fun _ h9 => h9) rfl (by decide +kernel) rfl rfl (Nat.le_of_ble_eq_true rfl) dX10_glareLimit_2 (fun H locs hP hD hS => ?_)
  have hP : va_P D vwCl (REF T b (yS y 3 0) w) H := hP
  have hD : va_D A (REF T b (yS y 3 0) w) := hD
  refine lv_aload_n hx hb dX10_glareLimit_5 rfl (lv_at hl 0 rfl) ?_
  refine va_get (D := D) (ci := 10) (v := .ref (b 1)) (C := RX10) (T := TX10) (N := 19) hx hb hts i10 hown hK hP 0 rfl rfl 0 (by decide) w2 (fun _ h9 => h9) rfl dX10_glareLimit_6 ?_
  refine lv_iconst (v := 0) hx hb dX10_glareLimit_9 (by decide) ?_
  refine rdS (As := [.ref (b 1), .int (0)]) (rest := []) ⟨hx, hb, hml, hown, hts⟩ (c_X10_limitOf l D T (b 1) (y 1) 0 (by first | omega | assumption | decide)) (va_cwS 2 hts gX10_glareLimit_X10_limitOf rfl rfl rfl (by decide +kernel) ⟨Nat.le_of_ble_eq_true rfl, Nat.le_of_ble_eq_true rfl⟩) hK (hP.sub [1] rfl) rfl hl.1 rfl (Nat.le_of_ble_eq_true rfl) ⟨Nat.zero_le _, Nat.zero_le _⟩ dX10_glareLimit_10 ?_
  refine endI (r := y 1 1) (by first | rfl | (simp [yS_same, true_and]; done) | (skip; simp [yS_same, true_and]; done)) ?_
  exact hret _ _ _ _ dX10_glareLimit_13 hP hD hS

set_option maxHeartbeats 4000000 in
set_option maxRecDepth 100000 in
theorem c_X10_gloomLimit (l : Launch) (D : va_G) (T : Nat → ClassId) (b : Nat → Nat) (y : Nat → Nat → Int32) (w : Int64) (sz : Nat) : Met l yX10_gloomLimit wsX10_gloomLimit ({ frames := 1, cells := 0, slots := 0, locals := 21 } : Room) (va_Pc [.ref (b 0)] (PS D T (REF T b y w) sz)) (va_Qi (fun r9 (_ : Unit) => r9 = (y 1 2)) (fun _ t => QS D T (va_A (REF T b y w) sz) (REF T b (yS y 3 0) w) t) (va_A (REF T b y w) sz)) 0 0 (va_A (REF T b y w) sz) := by
  refine metSi (cc := cX10_gloomLimit) (maxL := 1) (ty := .int) (by decide) rfl (by rfl) (Nat.le_of_ble_eq_true rfl) ?_
  intro p e s m args below meth c Q ls A hx hb hml hown hts hP hK hD hA hS hl hret
  have hown : s.vm.findClass RX10 = some m.cls := hown
  have hl : lv_has ls 1 [(0, .ref (b 0))] := hl
  have i10 : ∀ w ∈ wsX100, w ∈ wsX10_gloomLimit := by decide +kernel
  have w1 := hts (Cond.fieldLink RX10 51 "MoonComplaintWindowModel" "thrown" "I") (List.mem_of_getElem? (i := 1) rfl)
  have w2 := hts (Cond.fieldLink RX10 7 "MoonComplaintWindowModel" "now" "[I") (List.mem_of_getElem? (i := 2) rfl)
  refine lv_aload_n hx hb dX10_gloomLimit_0 rfl (lv_at hl 0 rfl) ?_
  refine lv_iconst (v := 0) hx hb dX10_gloomLimit_1 (by decide) ?_
  refine va_put (D := D) (ci := 10) (v := .int (0)) (ty := .int) (C := RX10) (T := TX10) (N := 19) hx hb hts i10 tyX10 tyX10_ok nmX10 hown hK hP hD hS 0 rfl rfl 10 (by decide) w1 (fun _ h9 => h9) rfl (by decide +kernel) rfl rfl (Nat.le_of_ble_eq_true rfl) dX10_gloomLimit_2 (fun H locs hP hD hS => ?_)
  have hP : va_P D vwCl (REF T b (yS y 3 0) w) H := hP
  have hD : va_D A (REF T b (yS y 3 0) w) := hD
  refine lv_aload_n hx hb dX10_gloomLimit_5 rfl (lv_at hl 0 rfl) ?_
  refine va_get (D := D) (ci := 10) (v := .ref (b 1)) (C := RX10) (T := TX10) (N := 19) hx hb hts i10 hown hK hP 0 rfl rfl 0 (by decide) w2 (fun _ h9 => h9) rfl dX10_gloomLimit_6 ?_
  refine lv_iconst (v := 1) hx hb dX10_gloomLimit_9 (by decide) ?_
  refine rdS (As := [.ref (b 1), .int (1)]) (rest := []) ⟨hx, hb, hml, hown, hts⟩ (c_X10_limitOf l D T (b 1) (y 1) 1 (by first | omega | assumption | decide)) (va_cwS 2 hts gX10_gloomLimit_X10_limitOf rfl rfl rfl (by decide +kernel) ⟨Nat.le_of_ble_eq_true rfl, Nat.le_of_ble_eq_true rfl⟩) hK (hP.sub [1] rfl) rfl hl.1 rfl (Nat.le_of_ble_eq_true rfl) ⟨Nat.zero_le _, Nat.zero_le _⟩ dX10_gloomLimit_10 ?_
  refine endI (r := y 1 2) (by first | rfl | (simp [yS_same, true_and]; done) | (skip; simp [yS_same, true_and]; done)) ?_
  exact hret _ _ _ _ dX10_gloomLimit_13 hP hD hS

set_option maxHeartbeats 4000000 in
set_option maxRecDepth 100000 in
theorem c_X10_tideLimit (l : Launch) (D : va_G) (T : Nat → ClassId) (b : Nat → Nat) (y : Nat → Nat → Int32) (w : Int64) (sz : Nat) : Met l yX10_tideLimit wsX10_tideLimit ({ frames := 1, cells := 0, slots := 0, locals := 21 } : Room) (va_Pc [.ref (b 0)] (PS D T (REF T b y w) sz)) (va_Qi (fun r9 (_ : Unit) => r9 = (y 1 3)) (fun _ t => QS D T (va_A (REF T b y w) sz) (REF T b (yS y 3 0) w) t) (va_A (REF T b y w) sz)) 0 0 (va_A (REF T b y w) sz) := by
  refine metSi (cc := cX10_tideLimit) (maxL := 1) (ty := .int) (by decide) rfl (by rfl) (Nat.le_of_ble_eq_true rfl) ?_
  intro p e s m args below meth c Q ls A hx hb hml hown hts hP hK hD hA hS hl hret
  have hown : s.vm.findClass RX10 = some m.cls := hown
  have hl : lv_has ls 1 [(0, .ref (b 0))] := hl
  have i10 : ∀ w ∈ wsX100, w ∈ wsX10_tideLimit := by decide +kernel
  have w1 := hts (Cond.fieldLink RX10 51 "MoonComplaintWindowModel" "thrown" "I") (List.mem_of_getElem? (i := 1) rfl)
  have w2 := hts (Cond.fieldLink RX10 7 "MoonComplaintWindowModel" "now" "[I") (List.mem_of_getElem? (i := 2) rfl)
  refine lv_aload_n hx hb dX10_tideLimit_0 rfl (lv_at hl 0 rfl) ?_
  refine lv_iconst (v := 0) hx hb dX10_tideLimit_1 (by decide) ?_
  refine va_put (D := D) (ci := 10) (v := .int (0)) (ty := .int) (C := RX10) (T := TX10) (N := 19) hx hb hts i10 tyX10 tyX10_ok nmX10 hown hK hP hD hS 0 rfl rfl 10 (by decide) w1 (fun _ h9 => h9) rfl (by decide +kernel) rfl rfl (Nat.le_of_ble_eq_true rfl) dX10_tideLimit_2 (fun H locs hP hD hS => ?_)
  have hP : va_P D vwCl (REF T b (yS y 3 0) w) H := hP
  have hD : va_D A (REF T b (yS y 3 0) w) := hD
  refine lv_aload_n hx hb dX10_tideLimit_5 rfl (lv_at hl 0 rfl) ?_
  refine va_get (D := D) (ci := 10) (v := .ref (b 1)) (C := RX10) (T := TX10) (N := 19) hx hb hts i10 hown hK hP 0 rfl rfl 0 (by decide) w2 (fun _ h9 => h9) rfl dX10_tideLimit_6 ?_
  refine lv_iconst (v := 2) hx hb dX10_tideLimit_9 (by decide) ?_
  refine rdS (As := [.ref (b 1), .int (2)]) (rest := []) ⟨hx, hb, hml, hown, hts⟩ (c_X10_limitOf l D T (b 1) (y 1) 2 (by first | omega | assumption | decide)) (va_cwS 2 hts gX10_tideLimit_X10_limitOf rfl rfl rfl (by decide +kernel) ⟨Nat.le_of_ble_eq_true rfl, Nat.le_of_ble_eq_true rfl⟩) hK (hP.sub [1] rfl) rfl hl.1 rfl (Nat.le_of_ble_eq_true rfl) ⟨Nat.zero_le _, Nat.zero_le _⟩ dX10_tideLimit_10 ?_
  refine endI (r := y 1 3) (by first | rfl | (simp [yS_same, true_and]; done) | (skip; simp [yS_same, true_and]; done)) ?_
  exact hret _ _ _ _ dX10_tideLimit_13 hP hD hS

set_option maxHeartbeats 4000000 in
set_option maxRecDepth 100000 in
theorem c_X10_cloudCount (l : Launch) (D : va_G) (T : Nat → ClassId) (b : Nat → Nat) (y : Nat → Nat → Int32) (w : Int64) (sz : Nat) : Met l yX10_cloudCount wsX10_cloudCount ({ frames := 0, cells := 0, slots := 0, locals := 0 } : Room) (va_Pc [.ref (b 0)] (PS D T (REF T b y w) sz)) (va_Qi (fun r9 (_ : Unit) => r9 = (y 1 4)) (fun _ t => QS D T (va_A (REF T b y w) sz) (REF T b (yS y 3 0) w) t) (va_A (REF T b y w) sz)) 0 0 (va_A (REF T b y w) sz) := by
  refine metSi (cc := cX10_cloudCount) (maxL := 1) (ty := .int) (by decide) rfl (by rfl) (Nat.le_of_ble_eq_true rfl) ?_
  intro p e s m args below meth c Q ls A hx hb hml hown hts hP hK hD hA hS hl hret
  have hown : s.vm.findClass RX10 = some m.cls := hown
  have hl : lv_has ls 1 [(0, .ref (b 0))] := hl
  have i10 : ∀ w ∈ wsX100, w ∈ wsX10_cloudCount := by decide +kernel
  have w1 := hts (Cond.fieldLink RX10 51 "MoonComplaintWindowModel" "thrown" "I") (List.mem_of_getElem? (i := 1) rfl)
  have w2 := hts (Cond.fieldLink RX10 7 "MoonComplaintWindowModel" "now" "[I") (List.mem_of_getElem? (i := 2) rfl)
  refine lv_aload_n hx hb dX10_cloudCount_0 rfl (lv_at hl 0 rfl) ?_
  refine lv_iconst (v := 0) hx hb dX10_cloudCount_1 (by decide) ?_
  refine va_put (D := D) (ci := 10) (v := .int (0)) (ty := .int) (C := RX10) (T := TX10) (N := 19) hx hb hts i10 tyX10 tyX10_ok nmX10 hown hK hP hD hS 0 rfl rfl 10 (by decide) w1 (fun _ h9 => h9) rfl (by decide +kernel) rfl rfl (Nat.le_of_ble_eq_true rfl) dX10_cloudCount_2 (fun H locs hP hD hS => ?_)
  have hP : va_P D vwCl (REF T b (yS y 3 0) w) H := hP
  have hD : va_D A (REF T b (yS y 3 0) w) := hD
  refine lv_aload_n hx hb dX10_cloudCount_5 rfl (lv_at hl 0 rfl) ?_
  refine va_get (D := D) (ci := 10) (v := .ref (b 1)) (C := RX10) (T := TX10) (N := 19) hx hb hts i10 hown hK hP 0 rfl rfl 0 (by decide) w2 (fun _ h9 => h9) rfl dX10_cloudCount_6 ?_
  refine lv_iconst (v := 4) hx hb dX10_cloudCount_9 (by decide) ?_
  refine aldI hx hb hK hP 1 0 rfl rfl (4) rfl (by omega) (by decide) dX10_cloudCount_10 ?_
  refine endI (r := y 1 4) (by first | rfl | (simp [yS_same, true_and]; done) | (skip; simp [yS_same, true_and]; done)) ?_
  exact hret _ _ _ _ dX10_cloudCount_11 hP hD hS

set_option maxHeartbeats 4000000 in
set_option maxRecDepth 100000 in
theorem c_X10_complaintCount (l : Launch) (D : va_G) (T : Nat → ClassId) (b : Nat → Nat) (y : Nat → Nat → Int32) (w : Int64) (sz : Nat) : Met l yX10_complaintCount wsX10_complaintCount ({ frames := 0, cells := 0, slots := 0, locals := 0 } : Room) (va_Pc [.ref (b 0)] (PS D T (REF T b y w) sz)) (va_Qi (fun r9 (_ : Unit) => r9 = (y 1 6)) (fun _ t => QS D T (va_A (REF T b y w) sz) (REF T b (yS y 3 0) w) t) (va_A (REF T b y w) sz)) 0 0 (va_A (REF T b y w) sz) := by
  refine metSi (cc := cX10_complaintCount) (maxL := 1) (ty := .int) (by decide) rfl (by rfl) (Nat.le_of_ble_eq_true rfl) ?_
  intro p e s m args below meth c Q ls A hx hb hml hown hts hP hK hD hA hS hl hret
  have hown : s.vm.findClass RX10 = some m.cls := hown
  have hl : lv_has ls 1 [(0, .ref (b 0))] := hl
  have i10 : ∀ w ∈ wsX100, w ∈ wsX10_complaintCount := by decide +kernel
  have w1 := hts (Cond.fieldLink RX10 51 "MoonComplaintWindowModel" "thrown" "I") (List.mem_of_getElem? (i := 1) rfl)
  have w2 := hts (Cond.fieldLink RX10 7 "MoonComplaintWindowModel" "now" "[I") (List.mem_of_getElem? (i := 2) rfl)
  refine lv_aload_n hx hb dX10_complaintCount_0 rfl (lv_at hl 0 rfl) ?_
  refine lv_iconst (v := 0) hx hb dX10_complaintCount_1 (by decide) ?_
  refine va_put (D := D) (ci := 10) (v := .int (0)) (ty := .int) (C := RX10) (T := TX10) (N := 19) hx hb hts i10 tyX10 tyX10_ok nmX10 hown hK hP hD hS 0 rfl rfl 10 (by decide) w1 (fun _ h9 => h9) rfl (by decide +kernel) rfl rfl (Nat.le_of_ble_eq_true rfl) dX10_complaintCount_2 (fun H locs hP hD hS => ?_)
  have hP : va_P D vwCl (REF T b (yS y 3 0) w) H := hP
  have hD : va_D A (REF T b (yS y 3 0) w) := hD
  refine lv_aload_n hx hb dX10_complaintCount_5 rfl (lv_at hl 0 rfl) ?_
  refine va_get (D := D) (ci := 10) (v := .ref (b 1)) (C := RX10) (T := TX10) (N := 19) hx hb hts i10 hown hK hP 0 rfl rfl 0 (by decide) w2 (fun _ h9 => h9) rfl dX10_complaintCount_6 ?_
  refine lv_bipush (v := 6) hx hb dX10_complaintCount_9 (by decide) ?_
  refine aldI hx hb hK hP 1 0 rfl rfl (6) rfl (by omega) (by decide) dX10_complaintCount_11 ?_
  refine endI (r := y 1 6) (by first | rfl | (simp [yS_same, true_and]; done) | (skip; simp [yS_same, true_and]; done)) ?_
  exact hret _ _ _ _ dX10_complaintCount_12 hP hD hS

set_option maxHeartbeats 4000000 in
set_option maxRecDepth 100000 in
theorem c_X10_clerkCount (l : Launch) (D : va_G) (T : Nat → ClassId) (b : Nat → Nat) (y : Nat → Nat → Int32) (w : Int64) (sz : Nat) : Met l yX10_clerkCount wsX10_clerkCount ({ frames := 0, cells := 0, slots := 0, locals := 0 } : Room) (va_Pc [.ref (b 0)] (PS D T (REF T b y w) sz)) (va_Qi (fun r9 (_ : Unit) => r9 = (y 1 5)) (fun _ t => QS D T (va_A (REF T b y w) sz) (REF T b (yS y 3 0) w) t) (va_A (REF T b y w) sz)) 0 0 (va_A (REF T b y w) sz) := by
  refine metSi (cc := cX10_clerkCount) (maxL := 1) (ty := .int) (by decide) rfl (by rfl) (Nat.le_of_ble_eq_true rfl) ?_
  intro p e s m args below meth c Q ls A hx hb hml hown hts hP hK hD hA hS hl hret
  have hown : s.vm.findClass RX10 = some m.cls := hown
  have hl : lv_has ls 1 [(0, .ref (b 0))] := hl
  have i10 : ∀ w ∈ wsX100, w ∈ wsX10_clerkCount := by decide +kernel
  have w1 := hts (Cond.fieldLink RX10 51 "MoonComplaintWindowModel" "thrown" "I") (List.mem_of_getElem? (i := 1) rfl)
  have w2 := hts (Cond.fieldLink RX10 7 "MoonComplaintWindowModel" "now" "[I") (List.mem_of_getElem? (i := 2) rfl)
  refine lv_aload_n hx hb dX10_clerkCount_0 rfl (lv_at hl 0 rfl) ?_
  refine lv_iconst (v := 0) hx hb dX10_clerkCount_1 (by decide) ?_
  refine va_put (D := D) (ci := 10) (v := .int (0)) (ty := .int) (C := RX10) (T := TX10) (N := 19) hx hb hts i10 tyX10 tyX10_ok nmX10 hown hK hP hD hS 0 rfl rfl 10 (by decide) w1 (fun _ h9 => h9) rfl (by decide +kernel) rfl rfl (Nat.le_of_ble_eq_true rfl) dX10_clerkCount_2 (fun H locs hP hD hS => ?_)
  have hP : va_P D vwCl (REF T b (yS y 3 0) w) H := hP
  have hD : va_D A (REF T b (yS y 3 0) w) := hD
  refine lv_aload_n hx hb dX10_clerkCount_5 rfl (lv_at hl 0 rfl) ?_
  refine va_get (D := D) (ci := 10) (v := .ref (b 1)) (C := RX10) (T := TX10) (N := 19) hx hb hts i10 hown hK hP 0 rfl rfl 0 (by decide) w2 (fun _ h9 => h9) rfl dX10_clerkCount_6 ?_
  refine lv_iconst (v := 5) hx hb dX10_clerkCount_9 (by decide) ?_
  refine aldI hx hb hK hP 1 0 rfl rfl (5) rfl (by omega) (by decide) dX10_clerkCount_10 ?_
  refine endI (r := y 1 5) (by first | rfl | (simp [yS_same, true_and]; done) | (skip; simp [yS_same, true_and]; done)) ?_
  exact hret _ _ _ _ dX10_clerkCount_11 hP hD hS

set_option maxHeartbeats 4000000 in
set_option maxRecDepth 100000 in
theorem c_X10_oilUsed (l : Launch) (D : va_G) (T : Nat → ClassId) (b : Nat → Nat) (y : Nat → Nat → Int32) (w : Int64) (sz : Nat) : Met l yX10_oilUsed wsX10_oilUsed ({ frames := 0, cells := 0, slots := 0, locals := 0 } : Room) (va_Pc [.ref (b 0)] (PS D T (REF T b y w) sz)) (va_Qi (fun r9 (_ : Unit) => r9 = (y 1 7)) (fun _ t => QS D T (va_A (REF T b y w) sz) (REF T b (yS y 3 0) w) t) (va_A (REF T b y w) sz)) 0 0 (va_A (REF T b y w) sz) := by
  refine metSi (cc := cX10_oilUsed) (maxL := 1) (ty := .int) (by decide) rfl (by rfl) (Nat.le_of_ble_eq_true rfl) ?_
  intro p e s m args below meth c Q ls A hx hb hml hown hts hP hK hD hA hS hl hret
  have hown : s.vm.findClass RX10 = some m.cls := hown
  have hl : lv_has ls 1 [(0, .ref (b 0))] := hl
  have i10 : ∀ w ∈ wsX100, w ∈ wsX10_oilUsed := by decide +kernel
  have w1 := hts (Cond.fieldLink RX10 51 "MoonComplaintWindowModel" "thrown" "I") (List.mem_of_getElem? (i := 1) rfl)
  have w2 := hts (Cond.fieldLink RX10 7 "MoonComplaintWindowModel" "now" "[I") (List.mem_of_getElem? (i := 2) rfl)
  refine lv_aload_n hx hb dX10_oilUsed_0 rfl (lv_at hl 0 rfl) ?_
  refine lv_iconst (v := 0) hx hb dX10_oilUsed_1 (by decide) ?_
  refine va_put (D := D) (ci := 10) (v := .int (0)) (ty := .int) (C := RX10) (T := TX10) (N := 19) hx hb hts i10 tyX10 tyX10_ok nmX10 hown hK hP hD hS 0 rfl rfl 10 (by decide) w1 (fun _ h9 => h9) rfl (by decide +kernel) rfl rfl (Nat.le_of_ble_eq_true rfl) dX10_oilUsed_2 (fun H locs hP hD hS => ?_)
  have hP : va_P D vwCl (REF T b (yS y 3 0) w) H := hP
  have hD : va_D A (REF T b (yS y 3 0) w) := hD
  refine lv_aload_n hx hb dX10_oilUsed_5 rfl (lv_at hl 0 rfl) ?_
  refine va_get (D := D) (ci := 10) (v := .ref (b 1)) (C := RX10) (T := TX10) (N := 19) hx hb hts i10 hown hK hP 0 rfl rfl 0 (by decide) w2 (fun _ h9 => h9) rfl dX10_oilUsed_6 ?_
  refine lv_bipush (v := 7) hx hb dX10_oilUsed_9 (by decide) ?_
  refine aldI hx hb hK hP 1 0 rfl rfl (7) rfl (by omega) (by decide) dX10_oilUsed_11 ?_
  refine endI (r := y 1 7) (by first | rfl | (simp [yS_same, true_and]; done) | (skip; simp [yS_same, true_and]; done)) ?_
  exact hret _ _ _ _ dX10_oilUsed_12 hP hD hS

set_option maxHeartbeats 4000000 in
set_option maxRecDepth 100000 in
theorem c_X10_comfort (l : Launch) (D : va_G) (T : Nat → ClassId) (b : Nat → Nat) (y : Nat → Nat → Int32) (w : Int64) (sz : Nat) : Met l yX10_comfort wsX10_comfort ({ frames := 0, cells := 0, slots := 0, locals := 0 } : Room) (va_Pc [.ref (b 0)] (PS D T (REF T b y w) sz)) (va_Qi (fun r9 (_ : Unit) => r9 = (y 1 8)) (fun _ t => QS D T (va_A (REF T b y w) sz) (REF T b (yS y 3 0) w) t) (va_A (REF T b y w) sz)) 0 0 (va_A (REF T b y w) sz) := by
  refine metSi (cc := cX10_comfort) (maxL := 1) (ty := .int) (by decide) rfl (by rfl) (Nat.le_of_ble_eq_true rfl) ?_
  intro p e s m args below meth c Q ls A hx hb hml hown hts hP hK hD hA hS hl hret
  have hown : s.vm.findClass RX10 = some m.cls := hown
  have hl : lv_has ls 1 [(0, .ref (b 0))] := hl
  have i10 : ∀ w ∈ wsX100, w ∈ wsX10_comfort := by decide +kernel
  have w1 := hts (Cond.fieldLink RX10 51 "MoonComplaintWindowModel" "thrown" "I") (List.mem_of_getElem? (i := 1) rfl)
  have w2 := hts (Cond.fieldLink RX10 7 "MoonComplaintWindowModel" "now" "[I") (List.mem_of_getElem? (i := 2) rfl)
  refine lv_aload_n hx hb dX10_comfort_0 rfl (lv_at hl 0 rfl) ?_
  refine lv_iconst (v := 0) hx hb dX10_comfort_1 (by decide) ?_
  refine va_put (D := D) (ci := 10) (v := .int (0)) (ty := .int) (C := RX10) (T := TX10) (N := 19) hx hb hts i10 tyX10 tyX10_ok nmX10 hown hK hP hD hS 0 rfl rfl 10 (by decide) w1 (fun _ h9 => h9) rfl (by decide +kernel) rfl rfl (Nat.le_of_ble_eq_true rfl) dX10_comfort_2 (fun H locs hP hD hS => ?_)
  have hP : va_P D vwCl (REF T b (yS y 3 0) w) H := hP
  have hD : va_D A (REF T b (yS y 3 0) w) := hD
  refine lv_aload_n hx hb dX10_comfort_5 rfl (lv_at hl 0 rfl) ?_
  refine va_get (D := D) (ci := 10) (v := .ref (b 1)) (C := RX10) (T := TX10) (N := 19) hx hb hts i10 hown hK hP 0 rfl rfl 0 (by decide) w2 (fun _ h9 => h9) rfl dX10_comfort_6 ?_
  refine lv_bipush (v := 8) hx hb dX10_comfort_9 (by decide) ?_
  refine aldI hx hb hK hP 1 0 rfl rfl (8) rfl (by omega) (by decide) dX10_comfort_11 ?_
  refine endI (r := y 1 8) (by first | rfl | (simp [yS_same, true_and]; done) | (skip; simp [yS_same, true_and]; done)) ?_
  exact hret _ _ _ _ dX10_comfort_12 hP hD hS

set_option maxHeartbeats 4000000 in
set_option maxRecDepth 100000 in
theorem c_X10_hasError (l : Launch) (D : va_G) (T : Nat → ClassId) (b : Nat → Nat) (y : Nat → Nat → Int32) (w : Int64) (sz : Nat) : Met l yX10_hasError wsX10_hasError ({ frames := 0, cells := 0, slots := 0, locals := 0 } : Room) (va_Pc [.ref (b 0)] (PS D T (REF T b y w) sz)) (va_Qi (fun r9 (_ : Unit) => r9 = (bI (decide (0 ≤ y 0 2)))) (fun _ t => QS D T (va_A (REF T b y w) sz) (REF T b (yS y 3 0) w) t) (va_A (REF T b y w) sz)) 0 0 (va_A (REF T b y w) sz) := by
  refine metSi (cc := cX10_hasError) (maxL := 1) (ty := .boolean) (by decide) rfl (by exact bI_nb _) (Nat.le_of_ble_eq_true rfl) ?_
  intro p e s m args below meth c Q ls A hx hb hml hown hts hP hK hD hA hS hl hret
  have hown : s.vm.findClass RX10 = some m.cls := hown
  have hl : lv_has ls 1 [(0, .ref (b 0))] := hl
  have i10 : ∀ w ∈ wsX100, w ∈ wsX10_hasError := by decide +kernel
  have w1 := hts (Cond.fieldLink RX10 51 "MoonComplaintWindowModel" "thrown" "I") (List.mem_of_getElem? (i := 1) rfl)
  have w2 := hts (Cond.fieldLink RX10 32 "MoonComplaintWindowModel" "error" "I") (List.mem_of_getElem? (i := 2) rfl)
  refine lv_aload_n hx hb dX10_hasError_0 rfl (lv_at hl 0 rfl) ?_
  refine lv_iconst (v := 0) hx hb dX10_hasError_1 (by decide) ?_
  refine va_put (D := D) (ci := 10) (v := .int (0)) (ty := .int) (C := RX10) (T := TX10) (N := 19) hx hb hts i10 tyX10 tyX10_ok nmX10 hown hK hP hD hS 0 rfl rfl 10 (by decide) w1 (fun _ h9 => h9) rfl (by decide +kernel) rfl rfl (Nat.le_of_ble_eq_true rfl) dX10_hasError_2 (fun H locs hP hD hS => ?_)
  have hP : va_P D vwCl (REF T b (yS y 3 0) w) H := hP
  have hD : va_D A (REF T b (yS y 3 0) w) := hD
  refine lv_aload_n hx hb dX10_hasError_5 rfl (lv_at hl 0 rfl) ?_
  refine va_get (D := D) (ci := 10) (v := .int (y 0 2)) (C := RX10) (T := TX10) (N := 19) hx hb hts i10 hown hK hP 0 rfl rfl 9 (by decide) w2 (fun _ h9 => h9) rfl dX10_hasError_6 ?_
  refine lv_if_lt (tgt := 16) hx hb dX10_hasError_9 (by decide) (fun c9 => ?_) (fun c9 => ?_)
  ·
    refine lv_iconst (v := 0) hx hb dX10_hasError_16 (by decide) ?_
    refine endI (r := bI (decide (0 ≤ y 0 2))) (by (first | have c9x := Int32.not_lt.mp c9 | have c9x := Int32.not_le.mp c9 | have c9x := Int32.not_lt.mpr c9 | have c9x := Int32.not_le.mpr c9 | have c9x := c9); simp [bI, c9, c9x]) ?_
    exact hret _ _ _ _ dX10_hasError_17 hP hD hS
  ·
    refine lv_iconst (v := 1) hx hb dX10_hasError_12 (by decide) ?_
    refine lv_goto (tgt := 17) hx hb dX10_hasError_13 (by decide) ?_
    refine endI (r := bI (decide (0 ≤ y 0 2))) (by (first | have c9x := Int32.not_lt.mp c9 | have c9x := Int32.not_le.mp c9 | have c9x := Int32.not_lt.mpr c9 | have c9x := Int32.not_le.mpr c9 | have c9x := c9); simp [bI, c9, c9x]) ?_
    exact hret _ _ _ _ dX10_hasError_17 hP hD hS

set_option maxHeartbeats 4000000 in
set_option maxRecDepth 100000 in
theorem c_X10_errorOffset (l : Launch) (D : va_G) (T : Nat → ClassId) (b : Nat → Nat) (y : Nat → Nat → Int32) (w : Int64) (sz : Nat) : Met l yX10_errorOffset wsX10_errorOffset ({ frames := 1, cells := 0, slots := 0, locals := 21 } : Room) (va_Pc [.ref (b 0)] (PS D T (REF T b y w) sz)) (va_Qi (fun r9 (_ : Unit) => r9 = (if y 0 2 < 0 then 0 else y 0 2)) (fun _ t => QS D T (va_A (REF T b y w) sz) (REF T b (yS y 3 (if y 0 2 < 0 then 1 else 0)) w) t) (va_A (REF T b y w) sz)) 0 0 (va_A (REF T b y w) sz) := by
  refine metSi (cc := cX10_errorOffset) (maxL := 1) (ty := .int) (by decide) rfl (by rfl) (Nat.le_of_ble_eq_true rfl) ?_
  intro p e s m args below meth c Q ls A hx hb hml hown hts hP hK hD hA hS hl hret
  have hown : s.vm.findClass RX10 = some m.cls := hown
  have hl : lv_has ls 1 [(0, .ref (b 0))] := hl
  have i10 : ∀ w ∈ wsX100, w ∈ wsX10_errorOffset := by decide +kernel
  have w1 := hts (Cond.fieldLink RX10 51 "MoonComplaintWindowModel" "thrown" "I") (List.mem_of_getElem? (i := 1) rfl)
  have w2 := hts (Cond.fieldLink RX10 32 "MoonComplaintWindowModel" "error" "I") (List.mem_of_getElem? (i := 2) rfl)
  refine lv_aload_n hx hb dX10_errorOffset_0 rfl (lv_at hl 0 rfl) ?_
  refine lv_iconst (v := 0) hx hb dX10_errorOffset_1 (by decide) ?_
  refine va_put (D := D) (ci := 10) (v := .int (0)) (ty := .int) (C := RX10) (T := TX10) (N := 19) hx hb hts i10 tyX10 tyX10_ok nmX10 hown hK hP hD hS 0 rfl rfl 10 (by decide) w1 (fun _ h9 => h9) rfl (by decide +kernel) rfl rfl (Nat.le_of_ble_eq_true rfl) dX10_errorOffset_2 (fun H locs hP hD hS => ?_)
  have hP : va_P D vwCl (REF T b (yS y 3 0) w) H := hP
  have hD : va_D A (REF T b (yS y 3 0) w) := hD
  refine lv_aload_n hx hb dX10_errorOffset_5 rfl (lv_at hl 0 rfl) ?_
  refine va_get (D := D) (ci := 10) (v := .int (y 0 2)) (C := RX10) (T := TX10) (N := 19) hx hb hts i10 hown hK hP 0 rfl rfl 9 (by decide) w2 (fun _ h9 => h9) rfl dX10_errorOffset_6 ?_
  refine lv_if_ge (tgt := 18) hx hb dX10_errorOffset_9 (by decide) (fun c9 => ?_) (fun c9 => ?_)
  ·
    refine lv_aload_n hx hb dX10_errorOffset_18 rfl (lv_at hl 0 rfl) ?_
    refine va_get (D := D) (ci := 10) (v := .int (y 0 2)) (C := RX10) (T := TX10) (N := 19) hx hb hts i10 hown hK hP 0 rfl rfl 9 (by decide) w2 (fun _ h9 => h9) rfl dX10_errorOffset_19 ?_
    refine endI (r := if y 0 2 < 0 then 0 else y 0 2) (by first | rfl | (simp [yS_same, c9]; done) | ((first | have c9x := Int32.not_lt.mp c9 | have c9x := Int32.not_le.mp c9 | have c9x := Int32.not_lt.mpr c9 | have c9x := Int32.not_le.mpr c9 | have c9x := c9); simp [yS_same, c9, c9x]; done)) ?_
    have hE : (yS y 3 0) = (yS y 3 (if y 0 2 < 0 then 1 else 0)) := by first | rfl | (simp [yS_same, c9]; done) | ((first | have c9x := Int32.not_lt.mp c9 | have c9x := Int32.not_le.mp c9 | have c9x := Int32.not_lt.mpr c9 | have c9x := Int32.not_le.mpr c9 | have c9x := c9); simp [yS_same, c9, c9x]; done)
    exact hret _ _ _ _ dX10_errorOffset_22 (by rw [← hE]; exact hP) (by rw [← hE]; exact hD) hS
  ·
    refine lv_aload_n hx hb dX10_errorOffset_12 rfl (lv_at hl 0 rfl) ?_
    refine lv_iconst (v := 1) hx hb dX10_errorOffset_13 (by decide) ?_
    refine wrVi (As := [.int (1)]) (rest := []) ⟨hx, hb, hml, hown, hts⟩ (c_X10_fails l D T b (yS y 3 0) w 1 _) (cwV 1 hts gX10_errorOffset_X10_fails rfl rfl rfl (by decide +kernel) ⟨Nat.le_of_ble_eq_true rfl, Nat.le_of_ble_eq_true rfl⟩) (Foc.rfl _ _) hK hP hD hS hA 0 rfl rfl rfl hl.1 rfl (Nat.le_of_ble_eq_true rfl) ⟨Nat.zero_le _, Nat.zero_le _⟩ dX10_errorOffset_14 (fun H locs hP hD hS => ?_)
    have hP : va_P D vwCl (REF T b (yS (yS y 3 0) 3 1) w) H := hP
    have hD : va_D A (REF T b (yS (yS y 3 0) 3 1) w) := hD
    refine endI (r := if y 0 2 < 0 then 0 else y 0 2) (by first | rfl | (simp [yS_same, c9]; done) | ((first | have c9x := Int32.not_lt.mp c9 | have c9x := Int32.not_le.mp c9 | have c9x := Int32.not_lt.mpr c9 | have c9x := Int32.not_le.mpr c9 | have c9x := c9); simp [yS_same, c9, c9x]; done)) ?_
    have hE : (yS (yS y 3 0) 3 1) = (yS y 3 (if y 0 2 < 0 then 1 else 0)) := by first | rfl | (simp [yS_same, c9]; done) | ((first | have c9x := Int32.not_lt.mp c9 | have c9x := Int32.not_le.mp c9 | have c9x := Int32.not_lt.mpr c9 | have c9x := Int32.not_le.mpr c9 | have c9x := c9); simp [yS_same, c9, c9x]; done)
    exact hret _ _ _ _ dX10_errorOffset_17 (by rw [← hE]; exact hP) (by rw [← hE]; exact hD) hS

set_option maxHeartbeats 4000000 in
set_option maxRecDepth 100000 in
theorem c_X10_waitingCount (l : Launch) (D : va_G) (T : Nat → ClassId) (b : Nat → Nat) (y : Nat → Nat → Int32) (w : Int64) (N : Nat) (K : Nat) (C : Nat) (nt : Nat) (hRI : RI (y 1) N K C nt) (sz : Nat) : Met l yX10_waitingCount wsX10_waitingCount ({ frames := 3, cells := 0, slots := 0, locals := 65 } : Room) (va_Pc [.ref (b 0)] (PS D T (REF T b y w) sz)) (va_Qi (fun r9 (_ : Unit) => r9 = (cntR (y 1) 0 N)) (fun _ t => QS D T (va_A (REF T b y w) sz) (REF T b (yS y 3 0) w) t) (va_A (REF T b y w) sz)) 0 0 (va_A (REF T b y w) sz) := by
  refine metSi (cc := cX10_waitingCount) (maxL := 1) (ty := .int) (by decide) rfl (by rfl) (Nat.le_of_ble_eq_true rfl) ?_
  intro p e s m args below meth c Q ls A hx hb hml hown hts hP hK hD hA hS hl hret
  have hown : s.vm.findClass RX10 = some m.cls := hown
  have hl : lv_has ls 1 [(0, .ref (b 0))] := hl
  have i10 : ∀ w ∈ wsX100, w ∈ wsX10_waitingCount := by decide +kernel
  have w1 := hts (Cond.fieldLink RX10 51 "MoonComplaintWindowModel" "thrown" "I") (List.mem_of_getElem? (i := 1) rfl)
  have w2 := hts (Cond.fieldLink RX10 7 "MoonComplaintWindowModel" "now" "[I") (List.mem_of_getElem? (i := 2) rfl)
  obtain ⟨hN, hN2, hKn, hK2, hC, hC1, hC2, hn, hnt, hSo, hSK⟩ := id hRI
  refine lv_aload_n hx hb dX10_waitingCount_0 rfl (lv_at hl 0 rfl) ?_
  refine lv_iconst (v := 0) hx hb dX10_waitingCount_1 (by decide) ?_
  refine va_put (D := D) (ci := 10) (v := .int (0)) (ty := .int) (C := RX10) (T := TX10) (N := 19) hx hb hts i10 tyX10 tyX10_ok nmX10 hown hK hP hD hS 0 rfl rfl 10 (by decide) w1 (fun _ h9 => h9) rfl (by decide +kernel) rfl rfl (Nat.le_of_ble_eq_true rfl) dX10_waitingCount_2 (fun H locs hP hD hS => ?_)
  have hP : va_P D vwCl (REF T b (yS y 3 0) w) H := hP
  have hD : va_D A (REF T b (yS y 3 0) w) := hD
  refine lv_aload_n hx hb dX10_waitingCount_5 rfl (lv_at hl 0 rfl) ?_
  refine va_get (D := D) (ci := 10) (v := .ref (b 1)) (C := RX10) (T := TX10) (N := 19) hx hb hts i10 hown hK hP 0 rfl rfl 0 (by decide) w2 (fun _ h9 => h9) rfl dX10_waitingCount_6 ?_
  refine lv_iconst (v := 0) hx hb dX10_waitingCount_9 (by decide) ?_
  refine rdS (As := [.ref (b 1), .int (0)]) (rest := []) ⟨hx, hb, hml, hown, hts⟩ (c_X10_countOf l D T (b 1) (y 1) 0 N hN hN2) (va_cwS 2 hts gX10_waitingCount_X10_countOf rfl rfl rfl (by decide +kernel) ⟨Nat.le_of_ble_eq_true rfl, Nat.le_of_ble_eq_true rfl⟩) hK (hP.sub [1] rfl) rfl hl.1 rfl (Nat.le_of_ble_eq_true rfl) ⟨Nat.zero_le _, Nat.zero_le _⟩ dX10_waitingCount_10 ?_
  refine endI (r := cntR (y 1) 0 N) (by first | rfl | (simp [yS_same, true_and]; done) | (skip; simp [yS_same, true_and]; done)) ?_
  exact hret _ _ _ _ dX10_waitingCount_13 hP hD hS

set_option maxHeartbeats 4000000 in
set_option maxRecDepth 100000 in
theorem c_X10_answeredCount (l : Launch) (D : va_G) (T : Nat → ClassId) (b : Nat → Nat) (y : Nat → Nat → Int32) (w : Int64) (N : Nat) (K : Nat) (C : Nat) (nt : Nat) (hRI : RI (y 1) N K C nt) (sz : Nat) : Met l yX10_answeredCount wsX10_answeredCount ({ frames := 3, cells := 0, slots := 0, locals := 65 } : Room) (va_Pc [.ref (b 0)] (PS D T (REF T b y w) sz)) (va_Qi (fun r9 (_ : Unit) => r9 = (cntR (y 1) 1 N)) (fun _ t => QS D T (va_A (REF T b y w) sz) (REF T b (yS y 3 0) w) t) (va_A (REF T b y w) sz)) 0 0 (va_A (REF T b y w) sz) := by
  refine metSi (cc := cX10_answeredCount) (maxL := 1) (ty := .int) (by decide) rfl (by rfl) (Nat.le_of_ble_eq_true rfl) ?_
  intro p e s m args below meth c Q ls A hx hb hml hown hts hP hK hD hA hS hl hret
  have hown : s.vm.findClass RX10 = some m.cls := hown
  have hl : lv_has ls 1 [(0, .ref (b 0))] := hl
  have i10 : ∀ w ∈ wsX100, w ∈ wsX10_answeredCount := by decide +kernel
  have w1 := hts (Cond.fieldLink RX10 51 "MoonComplaintWindowModel" "thrown" "I") (List.mem_of_getElem? (i := 1) rfl)
  have w2 := hts (Cond.fieldLink RX10 7 "MoonComplaintWindowModel" "now" "[I") (List.mem_of_getElem? (i := 2) rfl)
  obtain ⟨hN, hN2, hKn, hK2, hC, hC1, hC2, hn, hnt, hSo, hSK⟩ := id hRI
  refine lv_aload_n hx hb dX10_answeredCount_0 rfl (lv_at hl 0 rfl) ?_
  refine lv_iconst (v := 0) hx hb dX10_answeredCount_1 (by decide) ?_
  refine va_put (D := D) (ci := 10) (v := .int (0)) (ty := .int) (C := RX10) (T := TX10) (N := 19) hx hb hts i10 tyX10 tyX10_ok nmX10 hown hK hP hD hS 0 rfl rfl 10 (by decide) w1 (fun _ h9 => h9) rfl (by decide +kernel) rfl rfl (Nat.le_of_ble_eq_true rfl) dX10_answeredCount_2 (fun H locs hP hD hS => ?_)
  have hP : va_P D vwCl (REF T b (yS y 3 0) w) H := hP
  have hD : va_D A (REF T b (yS y 3 0) w) := hD
  refine lv_aload_n hx hb dX10_answeredCount_5 rfl (lv_at hl 0 rfl) ?_
  refine va_get (D := D) (ci := 10) (v := .ref (b 1)) (C := RX10) (T := TX10) (N := 19) hx hb hts i10 hown hK hP 0 rfl rfl 0 (by decide) w2 (fun _ h9 => h9) rfl dX10_answeredCount_6 ?_
  refine lv_iconst (v := 1) hx hb dX10_answeredCount_9 (by decide) ?_
  refine rdS (As := [.ref (b 1), .int (1)]) (rest := []) ⟨hx, hb, hml, hown, hts⟩ (c_X10_countOf l D T (b 1) (y 1) 1 N hN hN2) (va_cwS 2 hts gX10_answeredCount_X10_countOf rfl rfl rfl (by decide +kernel) ⟨Nat.le_of_ble_eq_true rfl, Nat.le_of_ble_eq_true rfl⟩) hK (hP.sub [1] rfl) rfl hl.1 rfl (Nat.le_of_ble_eq_true rfl) ⟨Nat.zero_le _, Nat.zero_le _⟩ dX10_answeredCount_10 ?_
  refine endI (r := cntR (y 1) 1 N) (by first | rfl | (simp [yS_same, true_and]; done) | (skip; simp [yS_same, true_and]; done)) ?_
  exact hret _ _ _ _ dX10_answeredCount_13 hP hD hS

set_option maxHeartbeats 4000000 in
set_option maxRecDepth 100000 in
theorem c_X10_dismissedCount (l : Launch) (D : va_G) (T : Nat → ClassId) (b : Nat → Nat) (y : Nat → Nat → Int32) (w : Int64) (N : Nat) (K : Nat) (C : Nat) (nt : Nat) (hRI : RI (y 1) N K C nt) (sz : Nat) : Met l yX10_dismissedCount wsX10_dismissedCount ({ frames := 3, cells := 0, slots := 0, locals := 65 } : Room) (va_Pc [.ref (b 0)] (PS D T (REF T b y w) sz)) (va_Qi (fun r9 (_ : Unit) => r9 = (cntR (y 1) 2 N)) (fun _ t => QS D T (va_A (REF T b y w) sz) (REF T b (yS y 3 0) w) t) (va_A (REF T b y w) sz)) 0 0 (va_A (REF T b y w) sz) := by
  refine metSi (cc := cX10_dismissedCount) (maxL := 1) (ty := .int) (by decide) rfl (by rfl) (Nat.le_of_ble_eq_true rfl) ?_
  intro p e s m args below meth c Q ls A hx hb hml hown hts hP hK hD hA hS hl hret
  have hown : s.vm.findClass RX10 = some m.cls := hown
  have hl : lv_has ls 1 [(0, .ref (b 0))] := hl
  have i10 : ∀ w ∈ wsX100, w ∈ wsX10_dismissedCount := by decide +kernel
  have w1 := hts (Cond.fieldLink RX10 51 "MoonComplaintWindowModel" "thrown" "I") (List.mem_of_getElem? (i := 1) rfl)
  have w2 := hts (Cond.fieldLink RX10 7 "MoonComplaintWindowModel" "now" "[I") (List.mem_of_getElem? (i := 2) rfl)
  obtain ⟨hN, hN2, hKn, hK2, hC, hC1, hC2, hn, hnt, hSo, hSK⟩ := id hRI
  refine lv_aload_n hx hb dX10_dismissedCount_0 rfl (lv_at hl 0 rfl) ?_
  refine lv_iconst (v := 0) hx hb dX10_dismissedCount_1 (by decide) ?_
  refine va_put (D := D) (ci := 10) (v := .int (0)) (ty := .int) (C := RX10) (T := TX10) (N := 19) hx hb hts i10 tyX10 tyX10_ok nmX10 hown hK hP hD hS 0 rfl rfl 10 (by decide) w1 (fun _ h9 => h9) rfl (by decide +kernel) rfl rfl (Nat.le_of_ble_eq_true rfl) dX10_dismissedCount_2 (fun H locs hP hD hS => ?_)
  have hP : va_P D vwCl (REF T b (yS y 3 0) w) H := hP
  have hD : va_D A (REF T b (yS y 3 0) w) := hD
  refine lv_aload_n hx hb dX10_dismissedCount_5 rfl (lv_at hl 0 rfl) ?_
  refine va_get (D := D) (ci := 10) (v := .ref (b 1)) (C := RX10) (T := TX10) (N := 19) hx hb hts i10 hown hK hP 0 rfl rfl 0 (by decide) w2 (fun _ h9 => h9) rfl dX10_dismissedCount_6 ?_
  refine lv_iconst (v := 2) hx hb dX10_dismissedCount_9 (by decide) ?_
  refine rdS (As := [.ref (b 1), .int (2)]) (rest := []) ⟨hx, hb, hml, hown, hts⟩ (c_X10_countOf l D T (b 1) (y 1) 2 N hN hN2) (va_cwS 2 hts gX10_dismissedCount_X10_countOf rfl rfl rfl (by decide +kernel) ⟨Nat.le_of_ble_eq_true rfl, Nat.le_of_ble_eq_true rfl⟩) hK (hP.sub [1] rfl) rfl hl.1 rfl (Nat.le_of_ble_eq_true rfl) ⟨Nat.zero_le _, Nat.zero_le _⟩ dX10_dismissedCount_10 ?_
  refine endI (r := cntR (y 1) 2 N) (by first | rfl | (simp [yS_same, true_and]; done) | (skip; simp [yS_same, true_and]; done)) ?_
  exact hret _ _ _ _ dX10_dismissedCount_13 hP hD hS

set_option maxHeartbeats 4000000 in
set_option maxRecDepth 100000 in
theorem c_X10_givenUpCount (l : Launch) (D : va_G) (T : Nat → ClassId) (b : Nat → Nat) (y : Nat → Nat → Int32) (w : Int64) (N : Nat) (K : Nat) (C : Nat) (nt : Nat) (hRI : RI (y 1) N K C nt) (sz : Nat) : Met l yX10_givenUpCount wsX10_givenUpCount ({ frames := 3, cells := 0, slots := 0, locals := 65 } : Room) (va_Pc [.ref (b 0)] (PS D T (REF T b y w) sz)) (va_Qi (fun r9 (_ : Unit) => r9 = (cntR (y 1) 3 N)) (fun _ t => QS D T (va_A (REF T b y w) sz) (REF T b (yS y 3 0) w) t) (va_A (REF T b y w) sz)) 0 0 (va_A (REF T b y w) sz) := by
  refine metSi (cc := cX10_givenUpCount) (maxL := 1) (ty := .int) (by decide) rfl (by rfl) (Nat.le_of_ble_eq_true rfl) ?_
  intro p e s m args below meth c Q ls A hx hb hml hown hts hP hK hD hA hS hl hret
  have hown : s.vm.findClass RX10 = some m.cls := hown
  have hl : lv_has ls 1 [(0, .ref (b 0))] := hl
  have i10 : ∀ w ∈ wsX100, w ∈ wsX10_givenUpCount := by decide +kernel
  have w1 := hts (Cond.fieldLink RX10 51 "MoonComplaintWindowModel" "thrown" "I") (List.mem_of_getElem? (i := 1) rfl)
  have w2 := hts (Cond.fieldLink RX10 7 "MoonComplaintWindowModel" "now" "[I") (List.mem_of_getElem? (i := 2) rfl)
  obtain ⟨hN, hN2, hKn, hK2, hC, hC1, hC2, hn, hnt, hSo, hSK⟩ := id hRI
  refine lv_aload_n hx hb dX10_givenUpCount_0 rfl (lv_at hl 0 rfl) ?_
  refine lv_iconst (v := 0) hx hb dX10_givenUpCount_1 (by decide) ?_
  refine va_put (D := D) (ci := 10) (v := .int (0)) (ty := .int) (C := RX10) (T := TX10) (N := 19) hx hb hts i10 tyX10 tyX10_ok nmX10 hown hK hP hD hS 0 rfl rfl 10 (by decide) w1 (fun _ h9 => h9) rfl (by decide +kernel) rfl rfl (Nat.le_of_ble_eq_true rfl) dX10_givenUpCount_2 (fun H locs hP hD hS => ?_)
  have hP : va_P D vwCl (REF T b (yS y 3 0) w) H := hP
  have hD : va_D A (REF T b (yS y 3 0) w) := hD
  refine lv_aload_n hx hb dX10_givenUpCount_5 rfl (lv_at hl 0 rfl) ?_
  refine va_get (D := D) (ci := 10) (v := .ref (b 1)) (C := RX10) (T := TX10) (N := 19) hx hb hts i10 hown hK hP 0 rfl rfl 0 (by decide) w2 (fun _ h9 => h9) rfl dX10_givenUpCount_6 ?_
  refine lv_iconst (v := 3) hx hb dX10_givenUpCount_9 (by decide) ?_
  refine rdS (As := [.ref (b 1), .int (3)]) (rest := []) ⟨hx, hb, hml, hown, hts⟩ (c_X10_countOf l D T (b 1) (y 1) 3 N hN hN2) (va_cwS 2 hts gX10_givenUpCount_X10_countOf rfl rfl rfl (by decide +kernel) ⟨Nat.le_of_ble_eq_true rfl, Nat.le_of_ble_eq_true rfl⟩) hK (hP.sub [1] rfl) rfl hl.1 rfl (Nat.le_of_ble_eq_true rfl) ⟨Nat.zero_le _, Nat.zero_le _⟩ dX10_givenUpCount_10 ?_
  refine endI (r := cntR (y 1) 3 N) (by first | rfl | (simp [yS_same, true_and]; done) | (skip; simp [yS_same, true_and]; done)) ?_
  exact hret _ _ _ _ dX10_givenUpCount_13 hP hD hS

set_option maxHeartbeats 4000000 in
set_option maxRecDepth 100000 in
theorem c_X10_oilCost (l : Launch) (D : va_G) (T : Nat → ClassId) (b : Nat → Nat) (y : Nat → Nat → Int32) (w : Int64) (N : Nat) (K : Nat) (C : Nat) (nt : Nat) (hRI : RI (y 1) N K C nt) (sz : Nat) : Met l yX10_oilCost wsX10_oilCost ({ frames := 4, cells := 0, slots := 0, locals := 83 } : Room) (va_Pc [.ref (b 0)] (PS D T (REF T b y w) sz)) (va_Qi (fun r9 (_ : Unit) => r9 = (costR C nt (y 1))) (fun _ t => QS D T (va_A (REF T b y w) sz) (REF T b (yS y 3 0) w) t) (va_A (REF T b y w) sz)) 0 0 (va_A (REF T b y w) sz) := by
  refine metSi (cc := cX10_oilCost) (maxL := 1) (ty := .int) (by decide) rfl (by rfl) (Nat.le_of_ble_eq_true rfl) ?_
  intro p e s m args below meth c Q ls A hx hb hml hown hts hP hK hD hA hS hl hret
  have hown : s.vm.findClass RX10 = some m.cls := hown
  have hl : lv_has ls 1 [(0, .ref (b 0))] := hl
  have i10 : ∀ w ∈ wsX100, w ∈ wsX10_oilCost := by decide +kernel
  have w1 := hts (Cond.fieldLink RX10 51 "MoonComplaintWindowModel" "thrown" "I") (List.mem_of_getElem? (i := 1) rfl)
  have w2 := hts (Cond.fieldLink RX10 7 "MoonComplaintWindowModel" "now" "[I") (List.mem_of_getElem? (i := 2) rfl)
  obtain ⟨hN, hN2, hKn, hK2, hC, hC1, hC2, hn, hnt, hSo, hSK⟩ := id hRI
  refine lv_aload_n hx hb dX10_oilCost_0 rfl (lv_at hl 0 rfl) ?_
  refine lv_iconst (v := 0) hx hb dX10_oilCost_1 (by decide) ?_
  refine va_put (D := D) (ci := 10) (v := .int (0)) (ty := .int) (C := RX10) (T := TX10) (N := 19) hx hb hts i10 tyX10 tyX10_ok nmX10 hown hK hP hD hS 0 rfl rfl 10 (by decide) w1 (fun _ h9 => h9) rfl (by decide +kernel) rfl rfl (Nat.le_of_ble_eq_true rfl) dX10_oilCost_2 (fun H locs hP hD hS => ?_)
  have hP : va_P D vwCl (REF T b (yS y 3 0) w) H := hP
  have hD : va_D A (REF T b (yS y 3 0) w) := hD
  refine lv_aload_n hx hb dX10_oilCost_5 rfl (lv_at hl 0 rfl) ?_
  refine va_get (D := D) (ci := 10) (v := .ref (b 1)) (C := RX10) (T := TX10) (N := 19) hx hb hts i10 hown hK hP 0 rfl rfl 0 (by decide) w2 (fun _ h9 => h9) rfl dX10_oilCost_6 ?_
  refine lv_aload_n hx hb dX10_oilCost_9 rfl (lv_at hl 0 rfl) ?_
  refine va_get (D := D) (ci := 10) (v := .ref (b 1)) (C := RX10) (T := TX10) (N := 19) hx hb hts i10 hown hK hP 0 rfl rfl 0 (by decide) w2 (fun _ h9 => h9) rfl dX10_oilCost_10 ?_
  refine lv_iconst (v := 0) hx hb dX10_oilCost_13 (by decide) ?_
  refine aldI hx hb hK hP 1 0 rfl rfl (0) rfl (by omega) (by decide) dX10_oilCost_14 ?_
  refine endI (r := nI nt) (hn) ?_
  refine rdS (As := [.ref (b 1), .int (nI nt)]) (rest := []) ⟨hx, hb, hml, hown, hts⟩ (c_X10_costOn l D T (b 1) (y 1) nt C hC hC1 hC2 (by omega)) (va_cwS 2 hts gX10_oilCost_X10_costOn rfl rfl rfl (by decide +kernel) ⟨Nat.le_of_ble_eq_true rfl, Nat.le_of_ble_eq_true rfl⟩) hK (hP.sub [1] rfl) rfl hl.1 rfl (Nat.le_of_ble_eq_true rfl) ⟨Nat.zero_le _, Nat.zero_le _⟩ dX10_oilCost_15 ?_
  refine endI (r := costR C nt (y 1)) (by first | rfl | (simp [yS_same, true_and]; done) | (skip; simp [yS_same, true_and]; done)) ?_
  exact hret _ _ _ _ dX10_oilCost_18 hP hD hS

set_option maxHeartbeats 4000000 in
set_option maxRecDepth 100000 in
theorem c_X10_lightOf (l : Launch) (D : va_G) (T : Nat → ClassId) (b : Nat → Nat) (y : Nat → Nat → Int32) (w : Int64) (z : Int32) (N : Nat) (K : Nat) (C : Nat) (nt : Nat) (hRI : RI (y 1) N K C nt) (sz : Nat) : Met l yX10_lightOf wsX10_lightOf ({ frames := 2, cells := 0, slots := 0, locals := 42 } : Room) (va_Pc [.ref (b 0), .int (z)] (PS D T (REF T b y w) sz)) (va_Qi (fun r9 (_ : Unit) => r9 = (if rg z 0 2000 then nI (lightN z.toNatClampNeg) else 0)) (fun _ t => QS D T (va_A (REF T b y w) sz) (REF T b (yS y 3 (if rg z 0 2000 then 0 else 1)) w) t) (va_A (REF T b y w) sz)) 0 0 (va_A (REF T b y w) sz) := by
  refine metSi (cc := cX10_lightOf) (maxL := 2) (ty := .int) (by decide) rfl (by rfl) (Nat.le_of_ble_eq_true rfl) ?_
  intro p e s m args below meth c Q ls A hx hb hml hown hts hP hK hD hA hS hl hret
  have hown : s.vm.findClass RX10 = some m.cls := hown
  have hl : lv_has ls 2 [(0, .ref (b 0)), (1, .int (z))] := hl
  have i10 : ∀ w ∈ wsX100, w ∈ wsX10_lightOf := by decide +kernel
  have w1 := hts (Cond.fieldLink RX10 51 "MoonComplaintWindowModel" "thrown" "I") (List.mem_of_getElem? (i := 1) rfl)
  obtain ⟨hN, hN2, hKn, hK2, hC, hC1, hC2, hn, hnt, hSo, hSK⟩ := id hRI
  refine lv_aload_n hx hb dX10_lightOf_0 rfl (lv_at hl 0 rfl) ?_
  refine lv_iconst (v := 0) hx hb dX10_lightOf_1 (by decide) ?_
  refine va_put (D := D) (ci := 10) (v := .int (0)) (ty := .int) (C := RX10) (T := TX10) (N := 19) hx hb hts i10 tyX10 tyX10_ok nmX10 hown hK hP hD hS 0 rfl rfl 10 (by decide) w1 (fun _ h9 => h9) rfl (by decide +kernel) rfl rfl (Nat.le_of_ble_eq_true rfl) dX10_lightOf_2 (fun H locs hP hD hS => ?_)
  have hP : va_P D vwCl (REF T b (yS y 3 0) w) H := hP
  have hD : va_D A (REF T b (yS y 3 0) w) := hD
  refine lv_iload_n hx hb dX10_lightOf_5 rfl (lv_at hl 1 rfl) ?_
  refine rdT (As := [.int (z)]) (rest := []) ⟨hx, hb, hml, hown, hts⟩ (c_X10_isNight l D T z ) (va_cwS 1 hts gX10_lightOf_X10_isNight rfl rfl rfl (by decide +kernel) ⟨Nat.le_of_ble_eq_true rfl, Nat.le_of_ble_eq_true rfl⟩) rfl hl.1 rfl (Nat.le_of_ble_eq_true rfl) ⟨Nat.zero_le _, Nat.zero_le _⟩ dX10_lightOf_6 ?_
  refine lv_if_eq (tgt := 17) hx hb dX10_lightOf_9 (by decide) (fun c9 => ?_) (fun c9 => ?_)
  ·
    have c9 := bI_0.mp c9
    refine lv_aload_n hx hb dX10_lightOf_17 rfl (lv_at hl 0 rfl) ?_
    refine lv_iconst (v := 1) hx hb dX10_lightOf_18 (by decide) ?_
    refine wrVi (As := [.int (1)]) (rest := []) ⟨hx, hb, hml, hown, hts⟩ (c_X10_fails l D T b (yS y 3 0) w 1 _) (cwV 1 hts gX10_lightOf_X10_fails rfl rfl rfl (by decide +kernel) ⟨Nat.le_of_ble_eq_true rfl, Nat.le_of_ble_eq_true rfl⟩) (Foc.rfl _ _) hK hP hD hS hA 0 rfl rfl rfl hl.1 rfl (Nat.le_of_ble_eq_true rfl) ⟨Nat.zero_le _, Nat.zero_le _⟩ dX10_lightOf_19 (fun H locs hP hD hS => ?_)
    have hP : va_P D vwCl (REF T b (yS (yS y 3 0) 3 1) w) H := hP
    have hD : va_D A (REF T b (yS (yS y 3 0) 3 1) w) := hD
    refine endI (r := if rg z 0 2000 then nI (lightN z.toNatClampNeg) else 0) (by first | (rw [if_pos c9, hkc]; done) | (rw [if_neg (by rw [c9]; decide)])) ?_
    have hE : (yS (yS y 3 0) 3 1) = (yS y 3 (if rg z 0 2000 then 0 else 1)) := by first | rfl | (simp [yS_same, c9]; done) | ((first | have c9x := Int32.not_lt.mp c9 | have c9x := Int32.not_le.mp c9 | have c9x := Int32.not_lt.mpr c9 | have c9x := Int32.not_le.mpr c9 | have c9x := c9); simp [yS_same, c9, c9x]; done)
    exact hret _ _ _ _ dX10_lightOf_22 (by rw [← hE]; exact hP) (by rw [← hE]; exact hD) hS
  ·
    have c9 := bI_n0.mp c9
    obtain ⟨k, hk, hkz, hkc⟩ := rg_nat (n := 2000) (by decide) c9
    rw [hkz] at hl
    have hl : lv_has ls 2 [(0, .ref (b 0)), (1, .int (nI k))] := hl
    refine lv_iload_n hx hb dX10_lightOf_12 rfl (lv_at hl 1 rfl) ?_
    refine rdT (As := [.int (nI k)]) (rest := []) ⟨hx, hb, hml, hown, hts⟩ (c_X10_lightOn l D T k (by first | omega | assumption | decide)) (va_cwS 1 hts gX10_lightOf_X10_lightOn rfl rfl rfl (by decide +kernel) ⟨Nat.le_of_ble_eq_true rfl, Nat.le_of_ble_eq_true rfl⟩) rfl hl.1 rfl (Nat.le_of_ble_eq_true rfl) ⟨Nat.zero_le _, Nat.zero_le _⟩ dX10_lightOf_13 ?_
    refine endI (r := if rg z 0 2000 then nI (lightN z.toNatClampNeg) else 0) (by first | (rw [if_pos c9, hkc]; done) | (rw [if_neg (by rw [c9]; decide)])) ?_
    have hE : (yS y 3 0) = (yS y 3 (if rg z 0 2000 then 0 else 1)) := by first | rfl | (simp [yS_same, c9]; done) | ((first | have c9x := Int32.not_lt.mp c9 | have c9x := Int32.not_le.mp c9 | have c9x := Int32.not_lt.mpr c9 | have c9x := Int32.not_le.mpr c9 | have c9x := c9); simp [yS_same, c9, c9x]; done)
    exact hret _ _ _ _ dX10_lightOf_16 (by rw [← hE]; exact hP) (by rw [← hE]; exact hD) hS

set_option maxHeartbeats 4000000 in
set_option maxRecDepth 100000 in
theorem c_X10_tideOf (l : Launch) (D : va_G) (T : Nat → ClassId) (b : Nat → Nat) (y : Nat → Nat → Int32) (w : Int64) (z : Int32) (N : Nat) (K : Nat) (C : Nat) (nt : Nat) (hRI : RI (y 1) N K C nt) (sz : Nat) : Met l yX10_tideOf wsX10_tideOf ({ frames := 2, cells := 0, slots := 0, locals := 42 } : Room) (va_Pc [.ref (b 0), .int (z)] (PS D T (REF T b y w) sz)) (va_Qi (fun r9 (_ : Unit) => r9 = (if rg z 0 2000 then nI (tideN z.toNatClampNeg) else 0)) (fun _ t => QS D T (va_A (REF T b y w) sz) (REF T b (yS y 3 (if rg z 0 2000 then 0 else 1)) w) t) (va_A (REF T b y w) sz)) 0 0 (va_A (REF T b y w) sz) := by
  refine metSi (cc := cX10_tideOf) (maxL := 2) (ty := .int) (by decide) rfl (by rfl) (Nat.le_of_ble_eq_true rfl) ?_
  intro p e s m args below meth c Q ls A hx hb hml hown hts hP hK hD hA hS hl hret
  have hown : s.vm.findClass RX10 = some m.cls := hown
  have hl : lv_has ls 2 [(0, .ref (b 0)), (1, .int (z))] := hl
  have i10 : ∀ w ∈ wsX100, w ∈ wsX10_tideOf := by decide +kernel
  have w1 := hts (Cond.fieldLink RX10 51 "MoonComplaintWindowModel" "thrown" "I") (List.mem_of_getElem? (i := 1) rfl)
  obtain ⟨hN, hN2, hKn, hK2, hC, hC1, hC2, hn, hnt, hSo, hSK⟩ := id hRI
  refine lv_aload_n hx hb dX10_tideOf_0 rfl (lv_at hl 0 rfl) ?_
  refine lv_iconst (v := 0) hx hb dX10_tideOf_1 (by decide) ?_
  refine va_put (D := D) (ci := 10) (v := .int (0)) (ty := .int) (C := RX10) (T := TX10) (N := 19) hx hb hts i10 tyX10 tyX10_ok nmX10 hown hK hP hD hS 0 rfl rfl 10 (by decide) w1 (fun _ h9 => h9) rfl (by decide +kernel) rfl rfl (Nat.le_of_ble_eq_true rfl) dX10_tideOf_2 (fun H locs hP hD hS => ?_)
  have hP : va_P D vwCl (REF T b (yS y 3 0) w) H := hP
  have hD : va_D A (REF T b (yS y 3 0) w) := hD
  refine lv_iload_n hx hb dX10_tideOf_5 rfl (lv_at hl 1 rfl) ?_
  refine rdT (As := [.int (z)]) (rest := []) ⟨hx, hb, hml, hown, hts⟩ (c_X10_isNight l D T z ) (va_cwS 1 hts gX10_tideOf_X10_isNight rfl rfl rfl (by decide +kernel) ⟨Nat.le_of_ble_eq_true rfl, Nat.le_of_ble_eq_true rfl⟩) rfl hl.1 rfl (Nat.le_of_ble_eq_true rfl) ⟨Nat.zero_le _, Nat.zero_le _⟩ dX10_tideOf_6 ?_
  refine lv_if_eq (tgt := 17) hx hb dX10_tideOf_9 (by decide) (fun c9 => ?_) (fun c9 => ?_)
  ·
    have c9 := bI_0.mp c9
    refine lv_aload_n hx hb dX10_tideOf_17 rfl (lv_at hl 0 rfl) ?_
    refine lv_iconst (v := 1) hx hb dX10_tideOf_18 (by decide) ?_
    refine wrVi (As := [.int (1)]) (rest := []) ⟨hx, hb, hml, hown, hts⟩ (c_X10_fails l D T b (yS y 3 0) w 1 _) (cwV 1 hts gX10_tideOf_X10_fails rfl rfl rfl (by decide +kernel) ⟨Nat.le_of_ble_eq_true rfl, Nat.le_of_ble_eq_true rfl⟩) (Foc.rfl _ _) hK hP hD hS hA 0 rfl rfl rfl hl.1 rfl (Nat.le_of_ble_eq_true rfl) ⟨Nat.zero_le _, Nat.zero_le _⟩ dX10_tideOf_19 (fun H locs hP hD hS => ?_)
    have hP : va_P D vwCl (REF T b (yS (yS y 3 0) 3 1) w) H := hP
    have hD : va_D A (REF T b (yS (yS y 3 0) 3 1) w) := hD
    refine endI (r := if rg z 0 2000 then nI (tideN z.toNatClampNeg) else 0) (by first | (rw [if_pos c9, hkc]; done) | (rw [if_neg (by rw [c9]; decide)])) ?_
    have hE : (yS (yS y 3 0) 3 1) = (yS y 3 (if rg z 0 2000 then 0 else 1)) := by first | rfl | (simp [yS_same, c9]; done) | ((first | have c9x := Int32.not_lt.mp c9 | have c9x := Int32.not_le.mp c9 | have c9x := Int32.not_lt.mpr c9 | have c9x := Int32.not_le.mpr c9 | have c9x := c9); simp [yS_same, c9, c9x]; done)
    exact hret _ _ _ _ dX10_tideOf_22 (by rw [← hE]; exact hP) (by rw [← hE]; exact hD) hS
  ·
    have c9 := bI_n0.mp c9
    obtain ⟨k, hk, hkz, hkc⟩ := rg_nat (n := 2000) (by decide) c9
    rw [hkz] at hl
    have hl : lv_has ls 2 [(0, .ref (b 0)), (1, .int (nI k))] := hl
    refine lv_iload_n hx hb dX10_tideOf_12 rfl (lv_at hl 1 rfl) ?_
    refine rdT (As := [.int (nI k)]) (rest := []) ⟨hx, hb, hml, hown, hts⟩ (c_X10_tideOn l D T k (by first | omega | assumption | decide)) (va_cwS 1 hts gX10_tideOf_X10_tideOn rfl rfl rfl (by decide +kernel) ⟨Nat.le_of_ble_eq_true rfl, Nat.le_of_ble_eq_true rfl⟩) rfl hl.1 rfl (Nat.le_of_ble_eq_true rfl) ⟨Nat.zero_le _, Nat.zero_le _⟩ dX10_tideOf_13 ?_
    refine endI (r := if rg z 0 2000 then nI (tideN z.toNatClampNeg) else 0) (by first | (rw [if_pos c9, hkc]; done) | (rw [if_neg (by rw [c9]; decide)])) ?_
    have hE : (yS y 3 0) = (yS y 3 (if rg z 0 2000 then 0 else 1)) := by first | rfl | (simp [yS_same, c9]; done) | ((first | have c9x := Int32.not_lt.mp c9 | have c9x := Int32.not_le.mp c9 | have c9x := Int32.not_lt.mpr c9 | have c9x := Int32.not_le.mpr c9 | have c9x := c9); simp [yS_same, c9, c9x]; done)
    exact hret _ _ _ _ dX10_tideOf_16 (by rw [← hE]; exact hP) (by rw [← hE]; exact hD) hS

set_option maxHeartbeats 4000000 in
set_option maxRecDepth 100000 in
theorem c_X10_cloudOf (l : Launch) (D : va_G) (T : Nat → ClassId) (b : Nat → Nat) (y : Nat → Nat → Int32) (w : Int64) (z : Int32) (N : Nat) (K : Nat) (C : Nat) (nt : Nat) (hRI : RI (y 1) N K C nt) (sz : Nat) : Met l yX10_cloudOf wsX10_cloudOf ({ frames := 2, cells := 0, slots := 0, locals := 42 } : Room) (va_Pc [.ref (b 0), .int (z)] (PS D T (REF T b y w) sz)) (va_Qi (fun r9 (_ : Unit) => r9 = (if rg z 0 2000 then y 1 (9 + z.toNatClampNeg % C) else 0)) (fun _ t => QS D T (va_A (REF T b y w) sz) (REF T b (yS y 3 (if rg z 0 2000 then 0 else 1)) w) t) (va_A (REF T b y w) sz)) 0 0 (va_A (REF T b y w) sz) := by
  refine metSi (cc := cX10_cloudOf) (maxL := 2) (ty := .int) (by decide) rfl (by rfl) (Nat.le_of_ble_eq_true rfl) ?_
  intro p e s m args below meth c Q ls A hx hb hml hown hts hP hK hD hA hS hl hret
  have hown : s.vm.findClass RX10 = some m.cls := hown
  have hl : lv_has ls 2 [(0, .ref (b 0)), (1, .int (z))] := hl
  have i10 : ∀ w ∈ wsX100, w ∈ wsX10_cloudOf := by decide +kernel
  have w1 := hts (Cond.fieldLink RX10 51 "MoonComplaintWindowModel" "thrown" "I") (List.mem_of_getElem? (i := 1) rfl)
  have w2 := hts (Cond.fieldLink RX10 7 "MoonComplaintWindowModel" "now" "[I") (List.mem_of_getElem? (i := 2) rfl)
  obtain ⟨hN, hN2, hKn, hK2, hC, hC1, hC2, hn, hnt, hSo, hSK⟩ := id hRI
  refine lv_aload_n hx hb dX10_cloudOf_0 rfl (lv_at hl 0 rfl) ?_
  refine lv_iconst (v := 0) hx hb dX10_cloudOf_1 (by decide) ?_
  refine va_put (D := D) (ci := 10) (v := .int (0)) (ty := .int) (C := RX10) (T := TX10) (N := 19) hx hb hts i10 tyX10 tyX10_ok nmX10 hown hK hP hD hS 0 rfl rfl 10 (by decide) w1 (fun _ h9 => h9) rfl (by decide +kernel) rfl rfl (Nat.le_of_ble_eq_true rfl) dX10_cloudOf_2 (fun H locs hP hD hS => ?_)
  have hP : va_P D vwCl (REF T b (yS y 3 0) w) H := hP
  have hD : va_D A (REF T b (yS y 3 0) w) := hD
  refine lv_iload_n hx hb dX10_cloudOf_5 rfl (lv_at hl 1 rfl) ?_
  refine rdT (As := [.int (z)]) (rest := []) ⟨hx, hb, hml, hown, hts⟩ (c_X10_isNight l D T z ) (va_cwS 1 hts gX10_cloudOf_X10_isNight rfl rfl rfl (by decide +kernel) ⟨Nat.le_of_ble_eq_true rfl, Nat.le_of_ble_eq_true rfl⟩) rfl hl.1 rfl (Nat.le_of_ble_eq_true rfl) ⟨Nat.zero_le _, Nat.zero_le _⟩ dX10_cloudOf_6 ?_
  refine lv_if_eq (tgt := 21) hx hb dX10_cloudOf_9 (by decide) (fun c9 => ?_) (fun c9 => ?_)
  ·
    have c9 := bI_0.mp c9
    refine lv_aload_n hx hb dX10_cloudOf_21 rfl (lv_at hl 0 rfl) ?_
    refine lv_iconst (v := 1) hx hb dX10_cloudOf_22 (by decide) ?_
    refine wrVi (As := [.int (1)]) (rest := []) ⟨hx, hb, hml, hown, hts⟩ (c_X10_fails l D T b (yS y 3 0) w 1 _) (cwV 1 hts gX10_cloudOf_X10_fails rfl rfl rfl (by decide +kernel) ⟨Nat.le_of_ble_eq_true rfl, Nat.le_of_ble_eq_true rfl⟩) (Foc.rfl _ _) hK hP hD hS hA 0 rfl rfl rfl hl.1 rfl (Nat.le_of_ble_eq_true rfl) ⟨Nat.zero_le _, Nat.zero_le _⟩ dX10_cloudOf_23 (fun H locs hP hD hS => ?_)
    have hP : va_P D vwCl (REF T b (yS (yS y 3 0) 3 1) w) H := hP
    have hD : va_D A (REF T b (yS (yS y 3 0) 3 1) w) := hD
    refine endI (r := if rg z 0 2000 then y 1 (9 + z.toNatClampNeg % C) else 0) (by first | (rw [if_pos c9, hkc]; done) | (rw [if_neg (by rw [c9]; decide)])) ?_
    have hE : (yS (yS y 3 0) 3 1) = (yS y 3 (if rg z 0 2000 then 0 else 1)) := by first | rfl | (simp [yS_same, c9]; done) | ((first | have c9x := Int32.not_lt.mp c9 | have c9x := Int32.not_le.mp c9 | have c9x := Int32.not_lt.mpr c9 | have c9x := Int32.not_le.mpr c9 | have c9x := c9); simp [yS_same, c9, c9x]; done)
    exact hret _ _ _ _ dX10_cloudOf_26 (by rw [← hE]; exact hP) (by rw [← hE]; exact hD) hS
  ·
    have c9 := bI_n0.mp c9
    obtain ⟨k, hk, hkz, hkc⟩ := rg_nat (n := 2000) (by decide) c9
    rw [hkz] at hl
    have hl : lv_has ls 2 [(0, .ref (b 0)), (1, .int (nI k))] := hl
    refine lv_aload_n hx hb dX10_cloudOf_12 rfl (lv_at hl 0 rfl) ?_
    refine va_get (D := D) (ci := 10) (v := .ref (b 1)) (C := RX10) (T := TX10) (N := 19) hx hb hts i10 hown hK hP 0 rfl rfl 0 (by decide) w2 (fun _ h9 => h9) rfl dX10_cloudOf_13 ?_
    refine lv_iload_n hx hb dX10_cloudOf_16 rfl (lv_at hl 1 rfl) ?_
    refine rdS (As := [.ref (b 1), .int (nI k)]) (rest := []) ⟨hx, hb, hml, hown, hts⟩ (c_X10_cloudOn l D T (b 1) (y 1) k C hC hC1 hC2 (by omega)) (va_cwS 2 hts gX10_cloudOf_X10_cloudOn rfl rfl rfl (by decide +kernel) ⟨Nat.le_of_ble_eq_true rfl, Nat.le_of_ble_eq_true rfl⟩) hK (hP.sub [1] rfl) rfl hl.1 rfl (Nat.le_of_ble_eq_true rfl) ⟨Nat.zero_le _, Nat.zero_le _⟩ dX10_cloudOf_17 ?_
    refine endI (r := if rg z 0 2000 then y 1 (9 + z.toNatClampNeg % C) else 0) (by first | (rw [if_pos c9, hkc]; done) | (rw [if_neg (by rw [c9]; decide)])) ?_
    have hE : (yS y 3 0) = (yS y 3 (if rg z 0 2000 then 0 else 1)) := by first | rfl | (simp [yS_same, c9]; done) | ((first | have c9x := Int32.not_lt.mp c9 | have c9x := Int32.not_le.mp c9 | have c9x := Int32.not_lt.mpr c9 | have c9x := Int32.not_le.mpr c9 | have c9x := c9); simp [yS_same, c9, c9x]; done)
    exact hret _ _ _ _ dX10_cloudOf_20 (by rw [← hE]; exact hP) (by rw [← hE]; exact hD) hS

set_option maxHeartbeats 4000000 in
set_option maxRecDepth 100000 in
theorem c_X10_visibleLight (l : Launch) (D : va_G) (T : Nat → ClassId) (b : Nat → Nat) (y : Nat → Nat → Int32) (w : Int64) (z : Int32) (N : Nat) (K : Nat) (C : Nat) (nt : Nat) (hRI : RI (y 1) N K C nt) (sz : Nat) : Met l yX10_visibleLight wsX10_visibleLight ({ frames := 3, cells := 0, slots := 0, locals := 62 } : Room) (va_Pc [.ref (b 0), .int (z)] (PS D T (REF T b y w) sz)) (va_Qi (fun r9 (_ : Unit) => r9 = (if rg z 0 2000 then visI z.toNatClampNeg (y 1 (9 + z.toNatClampNeg % C)) else 0)) (fun _ t => QS D T (va_A (REF T b y w) sz) (REF T b (yS y 3 (if rg z 0 2000 then 0 else 1)) w) t) (va_A (REF T b y w) sz)) 0 0 (va_A (REF T b y w) sz) := by
  refine metSi (cc := cX10_visibleLight) (maxL := 2) (ty := .int) (by decide) rfl (by rfl) (Nat.le_of_ble_eq_true rfl) ?_
  intro p e s m args below meth c Q ls A hx hb hml hown hts hP hK hD hA hS hl hret
  have hown : s.vm.findClass RX10 = some m.cls := hown
  have hl : lv_has ls 2 [(0, .ref (b 0)), (1, .int (z))] := hl
  have i10 : ∀ w ∈ wsX100, w ∈ wsX10_visibleLight := by decide +kernel
  have w1 := hts (Cond.fieldLink RX10 51 "MoonComplaintWindowModel" "thrown" "I") (List.mem_of_getElem? (i := 1) rfl)
  have w2 := hts (Cond.fieldLink RX10 7 "MoonComplaintWindowModel" "now" "[I") (List.mem_of_getElem? (i := 2) rfl)
  obtain ⟨hN, hN2, hKn, hK2, hC, hC1, hC2, hn, hnt, hSo, hSK⟩ := id hRI
  refine lv_aload_n hx hb dX10_visibleLight_0 rfl (lv_at hl 0 rfl) ?_
  refine lv_iconst (v := 0) hx hb dX10_visibleLight_1 (by decide) ?_
  refine va_put (D := D) (ci := 10) (v := .int (0)) (ty := .int) (C := RX10) (T := TX10) (N := 19) hx hb hts i10 tyX10 tyX10_ok nmX10 hown hK hP hD hS 0 rfl rfl 10 (by decide) w1 (fun _ h9 => h9) rfl (by decide +kernel) rfl rfl (Nat.le_of_ble_eq_true rfl) dX10_visibleLight_2 (fun H locs hP hD hS => ?_)
  have hP : va_P D vwCl (REF T b (yS y 3 0) w) H := hP
  have hD : va_D A (REF T b (yS y 3 0) w) := hD
  refine lv_iload_n hx hb dX10_visibleLight_5 rfl (lv_at hl 1 rfl) ?_
  refine rdT (As := [.int (z)]) (rest := []) ⟨hx, hb, hml, hown, hts⟩ (c_X10_isNight l D T z ) (va_cwS 1 hts gX10_visibleLight_X10_isNight rfl rfl rfl (by decide +kernel) ⟨Nat.le_of_ble_eq_true rfl, Nat.le_of_ble_eq_true rfl⟩) rfl hl.1 rfl (Nat.le_of_ble_eq_true rfl) ⟨Nat.zero_le _, Nat.zero_le _⟩ dX10_visibleLight_6 ?_
  refine lv_if_eq (tgt := 21) hx hb dX10_visibleLight_9 (by decide) (fun c9 => ?_) (fun c9 => ?_)
  ·
    have c9 := bI_0.mp c9
    refine lv_aload_n hx hb dX10_visibleLight_21 rfl (lv_at hl 0 rfl) ?_
    refine lv_iconst (v := 1) hx hb dX10_visibleLight_22 (by decide) ?_
    refine wrVi (As := [.int (1)]) (rest := []) ⟨hx, hb, hml, hown, hts⟩ (c_X10_fails l D T b (yS y 3 0) w 1 _) (cwV 1 hts gX10_visibleLight_X10_fails rfl rfl rfl (by decide +kernel) ⟨Nat.le_of_ble_eq_true rfl, Nat.le_of_ble_eq_true rfl⟩) (Foc.rfl _ _) hK hP hD hS hA 0 rfl rfl rfl hl.1 rfl (Nat.le_of_ble_eq_true rfl) ⟨Nat.zero_le _, Nat.zero_le _⟩ dX10_visibleLight_23 (fun H locs hP hD hS => ?_)
    have hP : va_P D vwCl (REF T b (yS (yS y 3 0) 3 1) w) H := hP
    have hD : va_D A (REF T b (yS (yS y 3 0) 3 1) w) := hD
    refine endI (r := if rg z 0 2000 then visI z.toNatClampNeg (y 1 (9 + z.toNatClampNeg % C)) else 0) (by first | (rw [if_pos c9, hkc]; done) | (rw [if_neg (by rw [c9]; decide)])) ?_
    have hE : (yS (yS y 3 0) 3 1) = (yS y 3 (if rg z 0 2000 then 0 else 1)) := by first | rfl | (simp [yS_same, c9]; done) | ((first | have c9x := Int32.not_lt.mp c9 | have c9x := Int32.not_le.mp c9 | have c9x := Int32.not_lt.mpr c9 | have c9x := Int32.not_le.mpr c9 | have c9x := c9); simp [yS_same, c9, c9x]; done)
    exact hret _ _ _ _ dX10_visibleLight_26 (by rw [← hE]; exact hP) (by rw [← hE]; exact hD) hS
  ·
    have c9 := bI_n0.mp c9
    obtain ⟨k, hk, hkz, hkc⟩ := rg_nat (n := 2000) (by decide) c9
    rw [hkz] at hl
    have hl : lv_has ls 2 [(0, .ref (b 0)), (1, .int (nI k))] := hl
    refine lv_aload_n hx hb dX10_visibleLight_12 rfl (lv_at hl 0 rfl) ?_
    refine va_get (D := D) (ci := 10) (v := .ref (b 1)) (C := RX10) (T := TX10) (N := 19) hx hb hts i10 hown hK hP 0 rfl rfl 0 (by decide) w2 (fun _ h9 => h9) rfl dX10_visibleLight_13 ?_
    refine lv_iload_n hx hb dX10_visibleLight_16 rfl (lv_at hl 1 rfl) ?_
    refine rdS (As := [.ref (b 1), .int (nI k)]) (rest := []) ⟨hx, hb, hml, hown, hts⟩ (c_X10_visibleOn l D T (b 1) (y 1) k C hC hC1 hC2 (by omega)) (va_cwS 2 hts gX10_visibleLight_X10_visibleOn rfl rfl rfl (by decide +kernel) ⟨Nat.le_of_ble_eq_true rfl, Nat.le_of_ble_eq_true rfl⟩) hK (hP.sub [1] rfl) rfl hl.1 rfl (Nat.le_of_ble_eq_true rfl) ⟨Nat.zero_le _, Nat.zero_le _⟩ dX10_visibleLight_17 ?_
    refine endI (r := if rg z 0 2000 then visI z.toNatClampNeg (y 1 (9 + z.toNatClampNeg % C)) else 0) (by first | (rw [if_pos c9, hkc]; done) | (rw [if_neg (by rw [c9]; decide)])) ?_
    have hE : (yS y 3 0) = (yS y 3 (if rg z 0 2000 then 0 else 1)) := by first | rfl | (simp [yS_same, c9]; done) | ((first | have c9x := Int32.not_lt.mp c9 | have c9x := Int32.not_le.mp c9 | have c9x := Int32.not_lt.mpr c9 | have c9x := Int32.not_le.mpr c9 | have c9x := c9); simp [yS_same, c9, c9x]; done)
    exact hret _ _ _ _ dX10_visibleLight_20 (by rw [← hE]; exact hP) (by rw [← hE]; exact hD) hS

set_option maxHeartbeats 4000000 in
set_option maxRecDepth 100000 in
theorem c_X10_personOf (l : Launch) (D : va_G) (T : Nat → ClassId) (b : Nat → Nat) (y : Nat → Nat → Int32) (w : Int64) (z : Int32) (N : Nat) (K : Nat) (C : Nat) (nt : Nat) (hRI : RI (y 1) N K C nt) (sz : Nat) : Met l yX10_personOf wsX10_personOf ({ frames := 3, cells := 0, slots := 0, locals := 65 } : Room) (va_Pc [.ref (b 0), .int (z)] (PS D T (REF T b y w) sz)) (va_Qi (fun r9 (_ : Unit) => r9 = (if inN z N then y 1 (34 + 7 * z.toNatClampNeg) else 0)) (fun _ t => QS D T (va_A (REF T b y w) sz) (REF T b (yS y 3 (if inN z N then 0 else 1)) w) t) (va_A (REF T b y w) sz)) 0 0 (va_A (REF T b y w) sz) := by
  refine metSi (cc := cX10_personOf) (maxL := 2) (ty := .int) (by decide) rfl (by rfl) (Nat.le_of_ble_eq_true rfl) ?_
  intro p e s m args below meth c Q ls A hx hb hml hown hts hP hK hD hA hS hl hret
  have hown : s.vm.findClass RX10 = some m.cls := hown
  have hl : lv_has ls 2 [(0, .ref (b 0)), (1, .int (z))] := hl
  have i10 : ∀ w ∈ wsX100, w ∈ wsX10_personOf := by decide +kernel
  have w1 := hts (Cond.fieldLink RX10 51 "MoonComplaintWindowModel" "thrown" "I") (List.mem_of_getElem? (i := 1) rfl)
  refine lv_aload_n hx hb dX10_personOf_0 rfl (lv_at hl 0 rfl) ?_
  refine lv_iconst (v := 0) hx hb dX10_personOf_1 (by decide) ?_
  refine va_put (D := D) (ci := 10) (v := .int (0)) (ty := .int) (C := RX10) (T := TX10) (N := 19) hx hb hts i10 tyX10 tyX10_ok nmX10 hown hK hP hD hS 0 rfl rfl 10 (by decide) w1 (fun _ h9 => h9) rfl (by decide +kernel) rfl rfl (Nat.le_of_ble_eq_true rfl) dX10_personOf_2 (fun H locs hP hD hS => ?_)
  have hP : va_P D vwCl (REF T b (yS y 3 0) w) H := hP
  have hD : va_D A (REF T b (yS y 3 0) w) := hD
  refine lv_aload_n hx hb dX10_personOf_5 rfl (lv_at hl 0 rfl) ?_
  refine lv_iload_n hx hb dX10_personOf_6 rfl (lv_at hl 1 rfl) ?_
  refine lv_iconst (v := 0) hx hb dX10_personOf_7 (by decide) ?_
  refine wrVi (As := [.int (z), .int (0)]) (rest := []) ⟨hx, hb, hml, hown, hts⟩ (c_X10_complaintNumber l D T b (yS y 3 0) w z 0 N K C nt hRI (by decide) _) (cwV 2 hts gX10_personOf_X10_complaintNumber rfl rfl rfl (by decide +kernel) ⟨Nat.le_of_ble_eq_true rfl, Nat.le_of_ble_eq_true rfl⟩) (Foc.rfl _ _) hK hP hD hS hA 0 rfl rfl rfl hl.1 rfl (Nat.le_of_ble_eq_true rfl) ⟨Nat.zero_le _, Nat.zero_le _⟩ dX10_personOf_8 (fun H locs hP hD hS => ?_)
  have hP : va_P D vwCl (REF T b (if inN z N then (yS y 3 0) else yS (yS y 3 0) 3 1) w) H := hP
  have hD : va_D A (REF T b (if inN z N then (yS y 3 0) else yS (yS y 3 0) 3 1) w) := hD
  refine endI (r := if inN z N then y 1 (34 + 7 * z.toNatClampNeg) else 0) (by rfl) ?_
  have hE : (if inN z N then (yS y 3 0) else yS (yS y 3 0) 3 1) = (yS y 3 (if inN z N then 0 else 1)) := by split <;> simp [yS_same]
  exact hret _ _ _ _ dX10_personOf_11 (by rw [← hE]; exact hP) (by rw [← hE]; exact hD) hS

set_option maxHeartbeats 4000000 in
set_option maxRecDepth 100000 in
theorem c_X10_sortOf (l : Launch) (D : va_G) (T : Nat → ClassId) (b : Nat → Nat) (y : Nat → Nat → Int32) (w : Int64) (z : Int32) (N : Nat) (K : Nat) (C : Nat) (nt : Nat) (hRI : RI (y 1) N K C nt) (sz : Nat) : Met l yX10_sortOf wsX10_sortOf ({ frames := 3, cells := 0, slots := 0, locals := 65 } : Room) (va_Pc [.ref (b 0), .int (z)] (PS D T (REF T b y w) sz)) (va_Qi (fun r9 (_ : Unit) => r9 = (if inN z N then y 1 (34 + 7 * z.toNatClampNeg + 1) else 0)) (fun _ t => QS D T (va_A (REF T b y w) sz) (REF T b (yS y 3 (if inN z N then 0 else 1)) w) t) (va_A (REF T b y w) sz)) 0 0 (va_A (REF T b y w) sz) := by
  refine metSi (cc := cX10_sortOf) (maxL := 2) (ty := .int) (by decide) rfl (by rfl) (Nat.le_of_ble_eq_true rfl) ?_
  intro p e s m args below meth c Q ls A hx hb hml hown hts hP hK hD hA hS hl hret
  have hown : s.vm.findClass RX10 = some m.cls := hown
  have hl : lv_has ls 2 [(0, .ref (b 0)), (1, .int (z))] := hl
  have i10 : ∀ w ∈ wsX100, w ∈ wsX10_sortOf := by decide +kernel
  have w1 := hts (Cond.fieldLink RX10 51 "MoonComplaintWindowModel" "thrown" "I") (List.mem_of_getElem? (i := 1) rfl)
  refine lv_aload_n hx hb dX10_sortOf_0 rfl (lv_at hl 0 rfl) ?_
  refine lv_iconst (v := 0) hx hb dX10_sortOf_1 (by decide) ?_
  refine va_put (D := D) (ci := 10) (v := .int (0)) (ty := .int) (C := RX10) (T := TX10) (N := 19) hx hb hts i10 tyX10 tyX10_ok nmX10 hown hK hP hD hS 0 rfl rfl 10 (by decide) w1 (fun _ h9 => h9) rfl (by decide +kernel) rfl rfl (Nat.le_of_ble_eq_true rfl) dX10_sortOf_2 (fun H locs hP hD hS => ?_)
  have hP : va_P D vwCl (REF T b (yS y 3 0) w) H := hP
  have hD : va_D A (REF T b (yS y 3 0) w) := hD
  refine lv_aload_n hx hb dX10_sortOf_5 rfl (lv_at hl 0 rfl) ?_
  refine lv_iload_n hx hb dX10_sortOf_6 rfl (lv_at hl 1 rfl) ?_
  refine lv_iconst (v := 1) hx hb dX10_sortOf_7 (by decide) ?_
  refine wrVi (As := [.int (z), .int (1)]) (rest := []) ⟨hx, hb, hml, hown, hts⟩ (c_X10_complaintNumber l D T b (yS y 3 0) w z 1 N K C nt hRI (by decide) _) (cwV 2 hts gX10_sortOf_X10_complaintNumber rfl rfl rfl (by decide +kernel) ⟨Nat.le_of_ble_eq_true rfl, Nat.le_of_ble_eq_true rfl⟩) (Foc.rfl _ _) hK hP hD hS hA 0 rfl rfl rfl hl.1 rfl (Nat.le_of_ble_eq_true rfl) ⟨Nat.zero_le _, Nat.zero_le _⟩ dX10_sortOf_8 (fun H locs hP hD hS => ?_)
  have hP : va_P D vwCl (REF T b (if inN z N then (yS y 3 0) else yS (yS y 3 0) 3 1) w) H := hP
  have hD : va_D A (REF T b (if inN z N then (yS y 3 0) else yS (yS y 3 0) 3 1) w) := hD
  refine endI (r := if inN z N then y 1 (34 + 7 * z.toNatClampNeg + 1) else 0) (by rfl) ?_
  have hE : (if inN z N then (yS y 3 0) else yS (yS y 3 0) 3 1) = (yS y 3 (if inN z N then 0 else 1)) := by split <;> simp [yS_same]
  exact hret _ _ _ _ dX10_sortOf_11 (by rw [← hE]; exact hP) (by rw [← hE]; exact hD) hS

set_option maxHeartbeats 4000000 in
set_option maxRecDepth 100000 in
theorem c_X10_angerOf (l : Launch) (D : va_G) (T : Nat → ClassId) (b : Nat → Nat) (y : Nat → Nat → Int32) (w : Int64) (z : Int32) (N : Nat) (K : Nat) (C : Nat) (nt : Nat) (hRI : RI (y 1) N K C nt) (sz : Nat) : Met l yX10_angerOf wsX10_angerOf ({ frames := 3, cells := 0, slots := 0, locals := 65 } : Room) (va_Pc [.ref (b 0), .int (z)] (PS D T (REF T b y w) sz)) (va_Qi (fun r9 (_ : Unit) => r9 = (if inN z N then y 1 (34 + 7 * z.toNatClampNeg + 2) else 0)) (fun _ t => QS D T (va_A (REF T b y w) sz) (REF T b (yS y 3 (if inN z N then 0 else 1)) w) t) (va_A (REF T b y w) sz)) 0 0 (va_A (REF T b y w) sz) := by
  refine metSi (cc := cX10_angerOf) (maxL := 2) (ty := .int) (by decide) rfl (by rfl) (Nat.le_of_ble_eq_true rfl) ?_
  intro p e s m args below meth c Q ls A hx hb hml hown hts hP hK hD hA hS hl hret
  have hown : s.vm.findClass RX10 = some m.cls := hown
  have hl : lv_has ls 2 [(0, .ref (b 0)), (1, .int (z))] := hl
  have i10 : ∀ w ∈ wsX100, w ∈ wsX10_angerOf := by decide +kernel
  have w1 := hts (Cond.fieldLink RX10 51 "MoonComplaintWindowModel" "thrown" "I") (List.mem_of_getElem? (i := 1) rfl)
  refine lv_aload_n hx hb dX10_angerOf_0 rfl (lv_at hl 0 rfl) ?_
  refine lv_iconst (v := 0) hx hb dX10_angerOf_1 (by decide) ?_
  refine va_put (D := D) (ci := 10) (v := .int (0)) (ty := .int) (C := RX10) (T := TX10) (N := 19) hx hb hts i10 tyX10 tyX10_ok nmX10 hown hK hP hD hS 0 rfl rfl 10 (by decide) w1 (fun _ h9 => h9) rfl (by decide +kernel) rfl rfl (Nat.le_of_ble_eq_true rfl) dX10_angerOf_2 (fun H locs hP hD hS => ?_)
  have hP : va_P D vwCl (REF T b (yS y 3 0) w) H := hP
  have hD : va_D A (REF T b (yS y 3 0) w) := hD
  refine lv_aload_n hx hb dX10_angerOf_5 rfl (lv_at hl 0 rfl) ?_
  refine lv_iload_n hx hb dX10_angerOf_6 rfl (lv_at hl 1 rfl) ?_
  refine lv_iconst (v := 2) hx hb dX10_angerOf_7 (by decide) ?_
  refine wrVi (As := [.int (z), .int (2)]) (rest := []) ⟨hx, hb, hml, hown, hts⟩ (c_X10_complaintNumber l D T b (yS y 3 0) w z 2 N K C nt hRI (by decide) _) (cwV 2 hts gX10_angerOf_X10_complaintNumber rfl rfl rfl (by decide +kernel) ⟨Nat.le_of_ble_eq_true rfl, Nat.le_of_ble_eq_true rfl⟩) (Foc.rfl _ _) hK hP hD hS hA 0 rfl rfl rfl hl.1 rfl (Nat.le_of_ble_eq_true rfl) ⟨Nat.zero_le _, Nat.zero_le _⟩ dX10_angerOf_8 (fun H locs hP hD hS => ?_)
  have hP : va_P D vwCl (REF T b (if inN z N then (yS y 3 0) else yS (yS y 3 0) 3 1) w) H := hP
  have hD : va_D A (REF T b (if inN z N then (yS y 3 0) else yS (yS y 3 0) 3 1) w) := hD
  refine endI (r := if inN z N then y 1 (34 + 7 * z.toNatClampNeg + 2) else 0) (by rfl) ?_
  have hE : (if inN z N then (yS y 3 0) else yS (yS y 3 0) 3 1) = (yS y 3 (if inN z N then 0 else 1)) := by split <;> simp [yS_same]
  exact hret _ _ _ _ dX10_angerOf_11 (by rw [← hE]; exact hP) (by rw [← hE]; exact hD) hS

set_option maxHeartbeats 4000000 in
set_option maxRecDepth 100000 in
theorem c_X10_filedIn (l : Launch) (D : va_G) (T : Nat → ClassId) (b : Nat → Nat) (y : Nat → Nat → Int32) (w : Int64) (z : Int32) (N : Nat) (K : Nat) (C : Nat) (nt : Nat) (hRI : RI (y 1) N K C nt) (sz : Nat) : Met l yX10_filedIn wsX10_filedIn ({ frames := 3, cells := 0, slots := 0, locals := 65 } : Room) (va_Pc [.ref (b 0), .int (z)] (PS D T (REF T b y w) sz)) (va_Qi (fun r9 (_ : Unit) => r9 = (if inN z N then y 1 (34 + 7 * z.toNatClampNeg + 3) else 0)) (fun _ t => QS D T (va_A (REF T b y w) sz) (REF T b (yS y 3 (if inN z N then 0 else 1)) w) t) (va_A (REF T b y w) sz)) 0 0 (va_A (REF T b y w) sz) := by
  refine metSi (cc := cX10_filedIn) (maxL := 2) (ty := .int) (by decide) rfl (by rfl) (Nat.le_of_ble_eq_true rfl) ?_
  intro p e s m args below meth c Q ls A hx hb hml hown hts hP hK hD hA hS hl hret
  have hown : s.vm.findClass RX10 = some m.cls := hown
  have hl : lv_has ls 2 [(0, .ref (b 0)), (1, .int (z))] := hl
  have i10 : ∀ w ∈ wsX100, w ∈ wsX10_filedIn := by decide +kernel
  have w1 := hts (Cond.fieldLink RX10 51 "MoonComplaintWindowModel" "thrown" "I") (List.mem_of_getElem? (i := 1) rfl)
  refine lv_aload_n hx hb dX10_filedIn_0 rfl (lv_at hl 0 rfl) ?_
  refine lv_iconst (v := 0) hx hb dX10_filedIn_1 (by decide) ?_
  refine va_put (D := D) (ci := 10) (v := .int (0)) (ty := .int) (C := RX10) (T := TX10) (N := 19) hx hb hts i10 tyX10 tyX10_ok nmX10 hown hK hP hD hS 0 rfl rfl 10 (by decide) w1 (fun _ h9 => h9) rfl (by decide +kernel) rfl rfl (Nat.le_of_ble_eq_true rfl) dX10_filedIn_2 (fun H locs hP hD hS => ?_)
  have hP : va_P D vwCl (REF T b (yS y 3 0) w) H := hP
  have hD : va_D A (REF T b (yS y 3 0) w) := hD
  refine lv_aload_n hx hb dX10_filedIn_5 rfl (lv_at hl 0 rfl) ?_
  refine lv_iload_n hx hb dX10_filedIn_6 rfl (lv_at hl 1 rfl) ?_
  refine lv_iconst (v := 3) hx hb dX10_filedIn_7 (by decide) ?_
  refine wrVi (As := [.int (z), .int (3)]) (rest := []) ⟨hx, hb, hml, hown, hts⟩ (c_X10_complaintNumber l D T b (yS y 3 0) w z 3 N K C nt hRI (by decide) _) (cwV 2 hts gX10_filedIn_X10_complaintNumber rfl rfl rfl (by decide +kernel) ⟨Nat.le_of_ble_eq_true rfl, Nat.le_of_ble_eq_true rfl⟩) (Foc.rfl _ _) hK hP hD hS hA 0 rfl rfl rfl hl.1 rfl (Nat.le_of_ble_eq_true rfl) ⟨Nat.zero_le _, Nat.zero_le _⟩ dX10_filedIn_8 (fun H locs hP hD hS => ?_)
  have hP : va_P D vwCl (REF T b (if inN z N then (yS y 3 0) else yS (yS y 3 0) 3 1) w) H := hP
  have hD : va_D A (REF T b (if inN z N then (yS y 3 0) else yS (yS y 3 0) 3 1) w) := hD
  refine endI (r := if inN z N then y 1 (34 + 7 * z.toNatClampNeg + 3) else 0) (by rfl) ?_
  have hE : (if inN z N then (yS y 3 0) else yS (yS y 3 0) 3 1) = (yS y 3 (if inN z N then 0 else 1)) := by split <;> simp [yS_same]
  exact hret _ _ _ _ dX10_filedIn_11 (by rw [← hE]; exact hP) (by rw [← hE]; exact hD) hS

set_option maxHeartbeats 4000000 in
set_option maxRecDepth 100000 in
theorem c_X10_isWaiting (l : Launch) (D : va_G) (T : Nat → ClassId) (b : Nat → Nat) (y : Nat → Nat → Int32) (w : Int64) (z : Int32) (N : Nat) (K : Nat) (C : Nat) (nt : Nat) (hRI : RI (y 1) N K C nt) (sz : Nat) : Met l yX10_isWaiting wsX10_isWaiting ({ frames := 3, cells := 0, slots := 0, locals := 65 } : Room) (va_Pc [.ref (b 0), .int (z)] (PS D T (REF T b y w) sz)) (va_Qi (fun r9 (_ : Unit) => r9 = (bI (inN z N && decide (y 1 (34 + 7 * z.toNatClampNeg + 4) = 0)))) (fun _ t => QS D T (va_A (REF T b y w) sz) (REF T b (yS y 3 (if inN z N then 0 else 1)) w) t) (va_A (REF T b y w) sz)) 0 0 (va_A (REF T b y w) sz) := by
  refine metSi (cc := cX10_isWaiting) (maxL := 2) (ty := .boolean) (by decide) rfl (by exact bI_nb _) (Nat.le_of_ble_eq_true rfl) ?_
  intro p e s m args below meth c Q ls A hx hb hml hown hts hP hK hD hA hS hl hret
  have hown : s.vm.findClass RX10 = some m.cls := hown
  have hl : lv_has ls 2 [(0, .ref (b 0)), (1, .int (z))] := hl
  have i10 : ∀ w ∈ wsX100, w ∈ wsX10_isWaiting := by decide +kernel
  have w1 := hts (Cond.fieldLink RX10 51 "MoonComplaintWindowModel" "thrown" "I") (List.mem_of_getElem? (i := 1) rfl)
  refine lv_aload_n hx hb dX10_isWaiting_0 rfl (lv_at hl 0 rfl) ?_
  refine lv_iconst (v := 0) hx hb dX10_isWaiting_1 (by decide) ?_
  refine va_put (D := D) (ci := 10) (v := .int (0)) (ty := .int) (C := RX10) (T := TX10) (N := 19) hx hb hts i10 tyX10 tyX10_ok nmX10 hown hK hP hD hS 0 rfl rfl 10 (by decide) w1 (fun _ h9 => h9) rfl (by decide +kernel) rfl rfl (Nat.le_of_ble_eq_true rfl) dX10_isWaiting_2 (fun H locs hP hD hS => ?_)
  have hP : va_P D vwCl (REF T b (yS y 3 0) w) H := hP
  have hD : va_D A (REF T b (yS y 3 0) w) := hD
  refine lv_aload_n hx hb dX10_isWaiting_5 rfl (lv_at hl 0 rfl) ?_
  refine lv_iload_n hx hb dX10_isWaiting_6 rfl (lv_at hl 1 rfl) ?_
  refine lv_iconst (v := 0) hx hb dX10_isWaiting_7 (by decide) ?_
  refine wrVi (As := [.int (z), .int (0)]) (rest := []) ⟨hx, hb, hml, hown, hts⟩ (c_X10_hasState l D T b (yS y 3 0) w z 0 N K C nt hRI _) (cwV 2 hts gX10_isWaiting_X10_hasState rfl rfl rfl (by decide +kernel) ⟨Nat.le_of_ble_eq_true rfl, Nat.le_of_ble_eq_true rfl⟩) (Foc.rfl _ _) hK hP hD hS hA 0 rfl rfl rfl hl.1 rfl (Nat.le_of_ble_eq_true rfl) ⟨Nat.zero_le _, Nat.zero_le _⟩ dX10_isWaiting_8 (fun H locs hP hD hS => ?_)
  have hP : va_P D vwCl (REF T b (if inN z N then (yS y 3 0) else yS (yS y 3 0) 3 1) w) H := hP
  have hD : va_D A (REF T b (if inN z N then (yS y 3 0) else yS (yS y 3 0) 3 1) w) := hD
  refine endI (r := bI (inN z N && decide (y 1 (34 + 7 * z.toNatClampNeg + 4) = 0))) (by rfl) ?_
  have hE : (if inN z N then (yS y 3 0) else yS (yS y 3 0) 3 1) = (yS y 3 (if inN z N then 0 else 1)) := by split <;> simp [yS_same]
  exact hret _ _ _ _ dX10_isWaiting_11 (by rw [← hE]; exact hP) (by rw [← hE]; exact hD) hS

set_option maxHeartbeats 4000000 in
set_option maxRecDepth 100000 in
theorem c_X10_isAnswered (l : Launch) (D : va_G) (T : Nat → ClassId) (b : Nat → Nat) (y : Nat → Nat → Int32) (w : Int64) (z : Int32) (N : Nat) (K : Nat) (C : Nat) (nt : Nat) (hRI : RI (y 1) N K C nt) (sz : Nat) : Met l yX10_isAnswered wsX10_isAnswered ({ frames := 3, cells := 0, slots := 0, locals := 65 } : Room) (va_Pc [.ref (b 0), .int (z)] (PS D T (REF T b y w) sz)) (va_Qi (fun r9 (_ : Unit) => r9 = (bI (inN z N && decide (y 1 (34 + 7 * z.toNatClampNeg + 4) = 1)))) (fun _ t => QS D T (va_A (REF T b y w) sz) (REF T b (yS y 3 (if inN z N then 0 else 1)) w) t) (va_A (REF T b y w) sz)) 0 0 (va_A (REF T b y w) sz) := by
  refine metSi (cc := cX10_isAnswered) (maxL := 2) (ty := .boolean) (by decide) rfl (by exact bI_nb _) (Nat.le_of_ble_eq_true rfl) ?_
  intro p e s m args below meth c Q ls A hx hb hml hown hts hP hK hD hA hS hl hret
  have hown : s.vm.findClass RX10 = some m.cls := hown
  have hl : lv_has ls 2 [(0, .ref (b 0)), (1, .int (z))] := hl
  have i10 : ∀ w ∈ wsX100, w ∈ wsX10_isAnswered := by decide +kernel
  have w1 := hts (Cond.fieldLink RX10 51 "MoonComplaintWindowModel" "thrown" "I") (List.mem_of_getElem? (i := 1) rfl)
  refine lv_aload_n hx hb dX10_isAnswered_0 rfl (lv_at hl 0 rfl) ?_
  refine lv_iconst (v := 0) hx hb dX10_isAnswered_1 (by decide) ?_
  refine va_put (D := D) (ci := 10) (v := .int (0)) (ty := .int) (C := RX10) (T := TX10) (N := 19) hx hb hts i10 tyX10 tyX10_ok nmX10 hown hK hP hD hS 0 rfl rfl 10 (by decide) w1 (fun _ h9 => h9) rfl (by decide +kernel) rfl rfl (Nat.le_of_ble_eq_true rfl) dX10_isAnswered_2 (fun H locs hP hD hS => ?_)
  have hP : va_P D vwCl (REF T b (yS y 3 0) w) H := hP
  have hD : va_D A (REF T b (yS y 3 0) w) := hD
  refine lv_aload_n hx hb dX10_isAnswered_5 rfl (lv_at hl 0 rfl) ?_
  refine lv_iload_n hx hb dX10_isAnswered_6 rfl (lv_at hl 1 rfl) ?_
  refine lv_iconst (v := 1) hx hb dX10_isAnswered_7 (by decide) ?_
  refine wrVi (As := [.int (z), .int (1)]) (rest := []) ⟨hx, hb, hml, hown, hts⟩ (c_X10_hasState l D T b (yS y 3 0) w z 1 N K C nt hRI _) (cwV 2 hts gX10_isAnswered_X10_hasState rfl rfl rfl (by decide +kernel) ⟨Nat.le_of_ble_eq_true rfl, Nat.le_of_ble_eq_true rfl⟩) (Foc.rfl _ _) hK hP hD hS hA 0 rfl rfl rfl hl.1 rfl (Nat.le_of_ble_eq_true rfl) ⟨Nat.zero_le _, Nat.zero_le _⟩ dX10_isAnswered_8 (fun H locs hP hD hS => ?_)
  have hP : va_P D vwCl (REF T b (if inN z N then (yS y 3 0) else yS (yS y 3 0) 3 1) w) H := hP
  have hD : va_D A (REF T b (if inN z N then (yS y 3 0) else yS (yS y 3 0) 3 1) w) := hD
  refine endI (r := bI (inN z N && decide (y 1 (34 + 7 * z.toNatClampNeg + 4) = 1))) (by rfl) ?_
  have hE : (if inN z N then (yS y 3 0) else yS (yS y 3 0) 3 1) = (yS y 3 (if inN z N then 0 else 1)) := by split <;> simp [yS_same]
  exact hret _ _ _ _ dX10_isAnswered_11 (by rw [← hE]; exact hP) (by rw [← hE]; exact hD) hS

set_option maxHeartbeats 4000000 in
set_option maxRecDepth 100000 in
theorem c_X10_isDismissed (l : Launch) (D : va_G) (T : Nat → ClassId) (b : Nat → Nat) (y : Nat → Nat → Int32) (w : Int64) (z : Int32) (N : Nat) (K : Nat) (C : Nat) (nt : Nat) (hRI : RI (y 1) N K C nt) (sz : Nat) : Met l yX10_isDismissed wsX10_isDismissed ({ frames := 3, cells := 0, slots := 0, locals := 65 } : Room) (va_Pc [.ref (b 0), .int (z)] (PS D T (REF T b y w) sz)) (va_Qi (fun r9 (_ : Unit) => r9 = (bI (inN z N && decide (y 1 (34 + 7 * z.toNatClampNeg + 4) = 2)))) (fun _ t => QS D T (va_A (REF T b y w) sz) (REF T b (yS y 3 (if inN z N then 0 else 1)) w) t) (va_A (REF T b y w) sz)) 0 0 (va_A (REF T b y w) sz) := by
  refine metSi (cc := cX10_isDismissed) (maxL := 2) (ty := .boolean) (by decide) rfl (by exact bI_nb _) (Nat.le_of_ble_eq_true rfl) ?_
  intro p e s m args below meth c Q ls A hx hb hml hown hts hP hK hD hA hS hl hret
  have hown : s.vm.findClass RX10 = some m.cls := hown
  have hl : lv_has ls 2 [(0, .ref (b 0)), (1, .int (z))] := hl
  have i10 : ∀ w ∈ wsX100, w ∈ wsX10_isDismissed := by decide +kernel
  have w1 := hts (Cond.fieldLink RX10 51 "MoonComplaintWindowModel" "thrown" "I") (List.mem_of_getElem? (i := 1) rfl)
  refine lv_aload_n hx hb dX10_isDismissed_0 rfl (lv_at hl 0 rfl) ?_
  refine lv_iconst (v := 0) hx hb dX10_isDismissed_1 (by decide) ?_
  refine va_put (D := D) (ci := 10) (v := .int (0)) (ty := .int) (C := RX10) (T := TX10) (N := 19) hx hb hts i10 tyX10 tyX10_ok nmX10 hown hK hP hD hS 0 rfl rfl 10 (by decide) w1 (fun _ h9 => h9) rfl (by decide +kernel) rfl rfl (Nat.le_of_ble_eq_true rfl) dX10_isDismissed_2 (fun H locs hP hD hS => ?_)
  have hP : va_P D vwCl (REF T b (yS y 3 0) w) H := hP
  have hD : va_D A (REF T b (yS y 3 0) w) := hD
  refine lv_aload_n hx hb dX10_isDismissed_5 rfl (lv_at hl 0 rfl) ?_
  refine lv_iload_n hx hb dX10_isDismissed_6 rfl (lv_at hl 1 rfl) ?_
  refine lv_iconst (v := 2) hx hb dX10_isDismissed_7 (by decide) ?_
  refine wrVi (As := [.int (z), .int (2)]) (rest := []) ⟨hx, hb, hml, hown, hts⟩ (c_X10_hasState l D T b (yS y 3 0) w z 2 N K C nt hRI _) (cwV 2 hts gX10_isDismissed_X10_hasState rfl rfl rfl (by decide +kernel) ⟨Nat.le_of_ble_eq_true rfl, Nat.le_of_ble_eq_true rfl⟩) (Foc.rfl _ _) hK hP hD hS hA 0 rfl rfl rfl hl.1 rfl (Nat.le_of_ble_eq_true rfl) ⟨Nat.zero_le _, Nat.zero_le _⟩ dX10_isDismissed_8 (fun H locs hP hD hS => ?_)
  have hP : va_P D vwCl (REF T b (if inN z N then (yS y 3 0) else yS (yS y 3 0) 3 1) w) H := hP
  have hD : va_D A (REF T b (if inN z N then (yS y 3 0) else yS (yS y 3 0) 3 1) w) := hD
  refine endI (r := bI (inN z N && decide (y 1 (34 + 7 * z.toNatClampNeg + 4) = 2))) (by rfl) ?_
  have hE : (if inN z N then (yS y 3 0) else yS (yS y 3 0) 3 1) = (yS y 3 (if inN z N then 0 else 1)) := by split <;> simp [yS_same]
  exact hret _ _ _ _ dX10_isDismissed_11 (by rw [← hE]; exact hP) (by rw [← hE]; exact hD) hS

set_option maxHeartbeats 4000000 in
set_option maxRecDepth 100000 in
theorem c_X10_isGivenUp (l : Launch) (D : va_G) (T : Nat → ClassId) (b : Nat → Nat) (y : Nat → Nat → Int32) (w : Int64) (z : Int32) (N : Nat) (K : Nat) (C : Nat) (nt : Nat) (hRI : RI (y 1) N K C nt) (sz : Nat) : Met l yX10_isGivenUp wsX10_isGivenUp ({ frames := 3, cells := 0, slots := 0, locals := 65 } : Room) (va_Pc [.ref (b 0), .int (z)] (PS D T (REF T b y w) sz)) (va_Qi (fun r9 (_ : Unit) => r9 = (bI (inN z N && decide (y 1 (34 + 7 * z.toNatClampNeg + 4) = 3)))) (fun _ t => QS D T (va_A (REF T b y w) sz) (REF T b (yS y 3 (if inN z N then 0 else 1)) w) t) (va_A (REF T b y w) sz)) 0 0 (va_A (REF T b y w) sz) := by
  refine metSi (cc := cX10_isGivenUp) (maxL := 2) (ty := .boolean) (by decide) rfl (by exact bI_nb _) (Nat.le_of_ble_eq_true rfl) ?_
  intro p e s m args below meth c Q ls A hx hb hml hown hts hP hK hD hA hS hl hret
  have hown : s.vm.findClass RX10 = some m.cls := hown
  have hl : lv_has ls 2 [(0, .ref (b 0)), (1, .int (z))] := hl
  have i10 : ∀ w ∈ wsX100, w ∈ wsX10_isGivenUp := by decide +kernel
  have w1 := hts (Cond.fieldLink RX10 51 "MoonComplaintWindowModel" "thrown" "I") (List.mem_of_getElem? (i := 1) rfl)
  refine lv_aload_n hx hb dX10_isGivenUp_0 rfl (lv_at hl 0 rfl) ?_
  refine lv_iconst (v := 0) hx hb dX10_isGivenUp_1 (by decide) ?_
  refine va_put (D := D) (ci := 10) (v := .int (0)) (ty := .int) (C := RX10) (T := TX10) (N := 19) hx hb hts i10 tyX10 tyX10_ok nmX10 hown hK hP hD hS 0 rfl rfl 10 (by decide) w1 (fun _ h9 => h9) rfl (by decide +kernel) rfl rfl (Nat.le_of_ble_eq_true rfl) dX10_isGivenUp_2 (fun H locs hP hD hS => ?_)
  have hP : va_P D vwCl (REF T b (yS y 3 0) w) H := hP
  have hD : va_D A (REF T b (yS y 3 0) w) := hD
  refine lv_aload_n hx hb dX10_isGivenUp_5 rfl (lv_at hl 0 rfl) ?_
  refine lv_iload_n hx hb dX10_isGivenUp_6 rfl (lv_at hl 1 rfl) ?_
  refine lv_iconst (v := 3) hx hb dX10_isGivenUp_7 (by decide) ?_
  refine wrVi (As := [.int (z), .int (3)]) (rest := []) ⟨hx, hb, hml, hown, hts⟩ (c_X10_hasState l D T b (yS y 3 0) w z 3 N K C nt hRI _) (cwV 2 hts gX10_isGivenUp_X10_hasState rfl rfl rfl (by decide +kernel) ⟨Nat.le_of_ble_eq_true rfl, Nat.le_of_ble_eq_true rfl⟩) (Foc.rfl _ _) hK hP hD hS hA 0 rfl rfl rfl hl.1 rfl (Nat.le_of_ble_eq_true rfl) ⟨Nat.zero_le _, Nat.zero_le _⟩ dX10_isGivenUp_8 (fun H locs hP hD hS => ?_)
  have hP : va_P D vwCl (REF T b (if inN z N then (yS y 3 0) else yS (yS y 3 0) 3 1) w) H := hP
  have hD : va_D A (REF T b (if inN z N then (yS y 3 0) else yS (yS y 3 0) 3 1) w) := hD
  refine endI (r := bI (inN z N && decide (y 1 (34 + 7 * z.toNatClampNeg + 4) = 3))) (by rfl) ?_
  have hE : (if inN z N then (yS y 3 0) else yS (yS y 3 0) 3 1) = (yS y 3 (if inN z N then 0 else 1)) := by split <;> simp [yS_same]
  exact hret _ _ _ _ dX10_isGivenUp_11 (by rw [← hE]; exact hP) (by rw [← hE]; exact hD) hS

set_option maxHeartbeats 4000000 in
set_option maxRecDepth 100000 in
theorem c_X10_skillOf (l : Launch) (D : va_G) (T : Nat → ClassId) (b : Nat → Nat) (y : Nat → Nat → Int32) (w : Int64) (z : Int32) (N : Nat) (K : Nat) (C : Nat) (nt : Nat) (hRI : RI (y 1) N K C nt) (sz : Nat) : Met l yX10_skillOf wsX10_skillOf ({ frames := 3, cells := 0, slots := 0, locals := 65 } : Room) (va_Pc [.ref (b 0), .int (z)] (PS D T (REF T b y w) sz)) (va_Qi (fun r9 (_ : Unit) => r9 = (if inN z K then y 1 (19 + 3 * z.toNatClampNeg) else 0)) (fun _ t => QS D T (va_A (REF T b y w) sz) (REF T b (yS y 3 (if inN z K then 0 else 1)) w) t) (va_A (REF T b y w) sz)) 0 0 (va_A (REF T b y w) sz) := by
  refine metSi (cc := cX10_skillOf) (maxL := 2) (ty := .int) (by decide) rfl (by rfl) (Nat.le_of_ble_eq_true rfl) ?_
  intro p e s m args below meth c Q ls A hx hb hml hown hts hP hK hD hA hS hl hret
  have hown : s.vm.findClass RX10 = some m.cls := hown
  have hl : lv_has ls 2 [(0, .ref (b 0)), (1, .int (z))] := hl
  have i10 : ∀ w ∈ wsX100, w ∈ wsX10_skillOf := by decide +kernel
  have w1 := hts (Cond.fieldLink RX10 51 "MoonComplaintWindowModel" "thrown" "I") (List.mem_of_getElem? (i := 1) rfl)
  refine lv_aload_n hx hb dX10_skillOf_0 rfl (lv_at hl 0 rfl) ?_
  refine lv_iconst (v := 0) hx hb dX10_skillOf_1 (by decide) ?_
  refine va_put (D := D) (ci := 10) (v := .int (0)) (ty := .int) (C := RX10) (T := TX10) (N := 19) hx hb hts i10 tyX10 tyX10_ok nmX10 hown hK hP hD hS 0 rfl rfl 10 (by decide) w1 (fun _ h9 => h9) rfl (by decide +kernel) rfl rfl (Nat.le_of_ble_eq_true rfl) dX10_skillOf_2 (fun H locs hP hD hS => ?_)
  have hP : va_P D vwCl (REF T b (yS y 3 0) w) H := hP
  have hD : va_D A (REF T b (yS y 3 0) w) := hD
  refine lv_aload_n hx hb dX10_skillOf_5 rfl (lv_at hl 0 rfl) ?_
  refine lv_iload_n hx hb dX10_skillOf_6 rfl (lv_at hl 1 rfl) ?_
  refine lv_iconst (v := 0) hx hb dX10_skillOf_7 (by decide) ?_
  refine wrVi (As := [.int (z), .int (0)]) (rest := []) ⟨hx, hb, hml, hown, hts⟩ (c_X10_clerkNumber l D T b (yS y 3 0) w z 0 N K C nt hRI (by decide) _) (cwV 2 hts gX10_skillOf_X10_clerkNumber rfl rfl rfl (by decide +kernel) ⟨Nat.le_of_ble_eq_true rfl, Nat.le_of_ble_eq_true rfl⟩) (Foc.rfl _ _) hK hP hD hS hA 0 rfl rfl rfl hl.1 rfl (Nat.le_of_ble_eq_true rfl) ⟨Nat.zero_le _, Nat.zero_le _⟩ dX10_skillOf_8 (fun H locs hP hD hS => ?_)
  have hP : va_P D vwCl (REF T b (if inN z K then (yS y 3 0) else yS (yS y 3 0) 3 1) w) H := hP
  have hD : va_D A (REF T b (if inN z K then (yS y 3 0) else yS (yS y 3 0) 3 1) w) := hD
  refine endI (r := if inN z K then y 1 (19 + 3 * z.toNatClampNeg) else 0) (by rfl) ?_
  have hE : (if inN z K then (yS y 3 0) else yS (yS y 3 0) 3 1) = (yS y 3 (if inN z K then 0 else 1)) := by split <;> simp [yS_same]
  exact hret _ _ _ _ dX10_skillOf_11 (by rw [← hE]; exact hP) (by rw [← hE]; exact hD) hS

set_option maxHeartbeats 4000000 in
set_option maxRecDepth 100000 in
theorem c_X10_oilOf (l : Launch) (D : va_G) (T : Nat → ClassId) (b : Nat → Nat) (y : Nat → Nat → Int32) (w : Int64) (z : Int32) (N : Nat) (K : Nat) (C : Nat) (nt : Nat) (hRI : RI (y 1) N K C nt) (sz : Nat) : Met l yX10_oilOf wsX10_oilOf ({ frames := 3, cells := 0, slots := 0, locals := 65 } : Room) (va_Pc [.ref (b 0), .int (z)] (PS D T (REF T b y w) sz)) (va_Qi (fun r9 (_ : Unit) => r9 = (if inN z K then y 1 (19 + 3 * z.toNatClampNeg + 1) else 0)) (fun _ t => QS D T (va_A (REF T b y w) sz) (REF T b (yS y 3 (if inN z K then 0 else 1)) w) t) (va_A (REF T b y w) sz)) 0 0 (va_A (REF T b y w) sz) := by
  refine metSi (cc := cX10_oilOf) (maxL := 2) (ty := .int) (by decide) rfl (by rfl) (Nat.le_of_ble_eq_true rfl) ?_
  intro p e s m args below meth c Q ls A hx hb hml hown hts hP hK hD hA hS hl hret
  have hown : s.vm.findClass RX10 = some m.cls := hown
  have hl : lv_has ls 2 [(0, .ref (b 0)), (1, .int (z))] := hl
  have i10 : ∀ w ∈ wsX100, w ∈ wsX10_oilOf := by decide +kernel
  have w1 := hts (Cond.fieldLink RX10 51 "MoonComplaintWindowModel" "thrown" "I") (List.mem_of_getElem? (i := 1) rfl)
  refine lv_aload_n hx hb dX10_oilOf_0 rfl (lv_at hl 0 rfl) ?_
  refine lv_iconst (v := 0) hx hb dX10_oilOf_1 (by decide) ?_
  refine va_put (D := D) (ci := 10) (v := .int (0)) (ty := .int) (C := RX10) (T := TX10) (N := 19) hx hb hts i10 tyX10 tyX10_ok nmX10 hown hK hP hD hS 0 rfl rfl 10 (by decide) w1 (fun _ h9 => h9) rfl (by decide +kernel) rfl rfl (Nat.le_of_ble_eq_true rfl) dX10_oilOf_2 (fun H locs hP hD hS => ?_)
  have hP : va_P D vwCl (REF T b (yS y 3 0) w) H := hP
  have hD : va_D A (REF T b (yS y 3 0) w) := hD
  refine lv_aload_n hx hb dX10_oilOf_5 rfl (lv_at hl 0 rfl) ?_
  refine lv_iload_n hx hb dX10_oilOf_6 rfl (lv_at hl 1 rfl) ?_
  refine lv_iconst (v := 1) hx hb dX10_oilOf_7 (by decide) ?_
  refine wrVi (As := [.int (z), .int (1)]) (rest := []) ⟨hx, hb, hml, hown, hts⟩ (c_X10_clerkNumber l D T b (yS y 3 0) w z 1 N K C nt hRI (by decide) _) (cwV 2 hts gX10_oilOf_X10_clerkNumber rfl rfl rfl (by decide +kernel) ⟨Nat.le_of_ble_eq_true rfl, Nat.le_of_ble_eq_true rfl⟩) (Foc.rfl _ _) hK hP hD hS hA 0 rfl rfl rfl hl.1 rfl (Nat.le_of_ble_eq_true rfl) ⟨Nat.zero_le _, Nat.zero_le _⟩ dX10_oilOf_8 (fun H locs hP hD hS => ?_)
  have hP : va_P D vwCl (REF T b (if inN z K then (yS y 3 0) else yS (yS y 3 0) 3 1) w) H := hP
  have hD : va_D A (REF T b (if inN z K then (yS y 3 0) else yS (yS y 3 0) 3 1) w) := hD
  refine endI (r := if inN z K then y 1 (19 + 3 * z.toNatClampNeg + 1) else 0) (by rfl) ?_
  have hE : (if inN z K then (yS y 3 0) else yS (yS y 3 0) 3 1) = (yS y 3 (if inN z K then 0 else 1)) := by split <;> simp [yS_same]
  exact hret _ _ _ _ dX10_oilOf_11 (by rw [← hE]; exact hP) (by rw [← hE]; exact hD) hS

set_option maxHeartbeats 4000000 in
set_option maxRecDepth 100000 in
theorem c_X10_answeredBy (l : Launch) (D : va_G) (T : Nat → ClassId) (b : Nat → Nat) (y : Nat → Nat → Int32) (w : Int64) (z : Int32) (N : Nat) (K : Nat) (C : Nat) (nt : Nat) (hRI : RI (y 1) N K C nt) (sz : Nat) : Met l yX10_answeredBy wsX10_answeredBy ({ frames := 3, cells := 0, slots := 0, locals := 65 } : Room) (va_Pc [.ref (b 0), .int (z)] (PS D T (REF T b y w) sz)) (va_Qi (fun r9 (_ : Unit) => r9 = (if inN z K then y 1 (19 + 3 * z.toNatClampNeg + 2) else 0)) (fun _ t => QS D T (va_A (REF T b y w) sz) (REF T b (yS y 3 (if inN z K then 0 else 1)) w) t) (va_A (REF T b y w) sz)) 0 0 (va_A (REF T b y w) sz) := by
  refine metSi (cc := cX10_answeredBy) (maxL := 2) (ty := .int) (by decide) rfl (by rfl) (Nat.le_of_ble_eq_true rfl) ?_
  intro p e s m args below meth c Q ls A hx hb hml hown hts hP hK hD hA hS hl hret
  have hown : s.vm.findClass RX10 = some m.cls := hown
  have hl : lv_has ls 2 [(0, .ref (b 0)), (1, .int (z))] := hl
  have i10 : ∀ w ∈ wsX100, w ∈ wsX10_answeredBy := by decide +kernel
  have w1 := hts (Cond.fieldLink RX10 51 "MoonComplaintWindowModel" "thrown" "I") (List.mem_of_getElem? (i := 1) rfl)
  refine lv_aload_n hx hb dX10_answeredBy_0 rfl (lv_at hl 0 rfl) ?_
  refine lv_iconst (v := 0) hx hb dX10_answeredBy_1 (by decide) ?_
  refine va_put (D := D) (ci := 10) (v := .int (0)) (ty := .int) (C := RX10) (T := TX10) (N := 19) hx hb hts i10 tyX10 tyX10_ok nmX10 hown hK hP hD hS 0 rfl rfl 10 (by decide) w1 (fun _ h9 => h9) rfl (by decide +kernel) rfl rfl (Nat.le_of_ble_eq_true rfl) dX10_answeredBy_2 (fun H locs hP hD hS => ?_)
  have hP : va_P D vwCl (REF T b (yS y 3 0) w) H := hP
  have hD : va_D A (REF T b (yS y 3 0) w) := hD
  refine lv_aload_n hx hb dX10_answeredBy_5 rfl (lv_at hl 0 rfl) ?_
  refine lv_iload_n hx hb dX10_answeredBy_6 rfl (lv_at hl 1 rfl) ?_
  refine lv_iconst (v := 2) hx hb dX10_answeredBy_7 (by decide) ?_
  refine wrVi (As := [.int (z), .int (2)]) (rest := []) ⟨hx, hb, hml, hown, hts⟩ (c_X10_clerkNumber l D T b (yS y 3 0) w z 2 N K C nt hRI (by decide) _) (cwV 2 hts gX10_answeredBy_X10_clerkNumber rfl rfl rfl (by decide +kernel) ⟨Nat.le_of_ble_eq_true rfl, Nat.le_of_ble_eq_true rfl⟩) (Foc.rfl _ _) hK hP hD hS hA 0 rfl rfl rfl hl.1 rfl (Nat.le_of_ble_eq_true rfl) ⟨Nat.zero_le _, Nat.zero_le _⟩ dX10_answeredBy_8 (fun H locs hP hD hS => ?_)
  have hP : va_P D vwCl (REF T b (if inN z K then (yS y 3 0) else yS (yS y 3 0) 3 1) w) H := hP
  have hD : va_D A (REF T b (if inN z K then (yS y 3 0) else yS (yS y 3 0) 3 1) w) := hD
  refine endI (r := if inN z K then y 1 (19 + 3 * z.toNatClampNeg + 2) else 0) (by rfl) ?_
  have hE : (if inN z K then (yS y 3 0) else yS (yS y 3 0) 3 1) = (yS y 3 (if inN z K then 0 else 1)) := by split <;> simp [yS_same]
  exact hret _ _ _ _ dX10_answeredBy_11 (by rw [← hE]; exact hP) (by rw [← hE]; exact hD) hS
