set_option maxHeartbeats 4000000 in
set_option maxRecDepth 100000 in
theorem c_X2_refuse (l : Launch) (D : va_G) (T : Nat → ClassId) (v : Nat → Nat) (B : Nat → Nat → Nat) (O : Nat → Nat → Nat → Int32) (g : CSt) (ln un nx pl : Nat) (f0 f1 f2 : Nat → Int32) (sz : Nat) : Met l yX2_refuse wsX2_refuse ({ frames := 0, cells := 0, slots := 0, locals := 0 } : Room) (va_Pc [.ref (v 1)] (PS D T (WIN T v B O g ln un nx pl f0 f1 f2) sz)) (va_Qv (fun (_ : Unit) => True) (fun _ t => QS D T (va_A (WIN T v B O g ln un nx pl f0 f1 f2) sz) (WIN T v B O (refC g) ln un nx pl f0 f1 f2) t) (va_A (WIN T v B O g ln un nx pl f0 f1 f2) sz)) 0 0 (va_A (WIN T v B O g ln un nx pl f0 f1 f2) sz) := by
  refine metSv (cc := cX2_refuse) (maxL := 1) (by decide) rfl (Nat.le_of_ble_eq_true rfl) ?_
  intro p e s m args below meth c Q ls A hx hb hml hown hts hP hK hD hA hS hl hret
  have hown : s.vm.findClass RX2 = some m.cls := hown
  have hl : lv_has ls 1 [(0, .ref (v 1))] := hl
  have i1 : ∀ w ∈ wsX10, w ∈ wsX2_refuse := by decide +kernel
  have i2 : ∀ w ∈ wsX20, w ∈ wsX2_refuse := by decide +kernel
  have w1 := hts (Cond.fieldLink RX2 25 "MoonComplaintWindow$Loader" "failed" "Z") (List.mem_of_getElem? (i := 1) rfl)
  have w2 := hts (Cond.fieldLink RX2 12 "MoonComplaintWindow$Loader" "input" "LMoonComplaintWindow$Input;") (List.mem_of_getElem? (i := 2) rfl)
  have w3 := hts (Cond.fieldLink RX2 149 "MoonComplaintWindow$Input" "start" "I") (List.mem_of_getElem? (i := 3) rfl)
  have w4 := hts (Cond.fieldLink RX2 29 "MoonComplaintWindow$Loader" "errorOffset" "I") (List.mem_of_getElem? (i := 4) rfl)
  refine lv_aload_n hx hb dX2_refuse_0 rfl (lv_at hl 0 rfl) ?_
  refine va_get (D := D) (ci := 2) (v := .int (bI g.2.2.2.1)) (C := RX2) (T := TX2) (N := 4) hx hb hts i2 hown hK hP 1 rfl rfl 0 (by decide) w1 (fun _ h9 => h9) rfl dX2_refuse_1 ?_
  refine lv_if_ne (tgt := 23) hx hb dX2_refuse_4 (by decide) (fun c4 => ?_) (fun c4 => ?_)
  ·
    have c4 := bI_n0.mp c4
    have hE : (WIN T v B O g ln un nx pl f0 f1 f2 : va_W) = (WIN T v B O (refC g) ln un nx pl f0 f1 f2) := by first | (rw [refC_t c4]; done) | (rw [refC_f c4]; done)
    exact hret _ _ _ _ dX2_refuse_23 (by rw [← hE]; exact hP) (by rw [← hE]; exact hD) hS
  ·
    have c4 := bI_0.mp c4
    refine lv_aload_n hx hb dX2_refuse_7 rfl (lv_at hl 0 rfl) ?_
    refine lv_iconst (v := 1) hx hb dX2_refuse_8 (by decide) ?_
    refine va_put (D := D) (ci := 2) (v := .int (1)) (ty := .boolean) (C := RX2) (T := TX2) (N := 4) hx hb hts i2 tyX2 tyX2_ok nmX2 hown hK hP hD hS 1 rfl rfl 0 (by decide) w1 (fun _ h9 => h9) rfl (by decide +kernel) rfl rfl (Nat.le_of_ble_eq_true rfl) dX2_refuse_9 (fun H locs hP hD hS => ?_)
    have hP : va_P D vwCl (WIN T v B O ((g.1, g.2.1, g.2.2.1, true, g.2.2.2.2)) ln un nx pl f0 f1 f2) H := hP
    have hD : va_D A (WIN T v B O ((g.1, g.2.1, g.2.2.1, true, g.2.2.2.2)) ln un nx pl f0 f1 f2) := hD
    refine lv_aload_n hx hb dX2_refuse_12 rfl (lv_at hl 0 rfl) ?_
    refine lv_aload_n hx hb dX2_refuse_13 rfl (lv_at hl 0 rfl) ?_
    refine va_get (D := D) (ci := 2) (v := .ref (v 2)) (C := RX2) (T := TX2) (N := 4) hx hb hts i2 hown hK hP 1 rfl rfl 2 (by decide) w2 (fun _ h9 => h9) rfl dX2_refuse_14 ?_
    refine va_get (D := D) (ci := 1) (v := .int (nI g.2.1)) (C := RX1) (T := TX1) (N := 5) hx hb hts i1 hown hK hP 2 rfl rfl 2 (by decide) w3 (fun _ h9 => h9) rfl dX2_refuse_17 ?_
    refine va_put (D := D) (ci := 2) (v := .int (nI g.2.1)) (ty := .int) (C := RX2) (T := TX2) (N := 4) hx hb hts i2 tyX2 tyX2_ok nmX2 hown hK hP hD hS 1 rfl rfl 1 (by decide) w4 (fun _ h9 => h9) rfl (by decide +kernel) rfl rfl (Nat.le_of_ble_eq_true rfl) dX2_refuse_20 (fun H locs hP hD hS => ?_)
    have hP : va_P D vwCl (WIN T v B O ((g.1, g.2.1, g.2.2.1, true, nI g.2.1)) ln un nx pl f0 f1 f2) H := hP
    have hD : va_D A (WIN T v B O ((g.1, g.2.1, g.2.2.1, true, nI g.2.1)) ln un nx pl f0 f1 f2) := hD
    have hE : (WIN T v B O ((g.1, g.2.1, g.2.2.1, true, nI g.2.1)) ln un nx pl f0 f1 f2 : va_W) = (WIN T v B O (refC g) ln un nx pl f0 f1 f2) := by first | (rw [refC_t c4]; done) | (rw [refC_f c4]; done)
    exact hret _ _ _ _ dX2_refuse_23 (by rw [← hE]; exact hP) (by rw [← hE]; exact hD) hS

set_option maxHeartbeats 4000000 in
set_option maxRecDepth 100000 in
theorem c_X2_takeWord (l : Launch) (D : va_G) (T : Nat → ClassId) (aK aV : Nat → Nat) (v : Nat → Nat) (B : Nat → Nat → Nat) (O : Nat → Nat → Nat → Int32) (g : CSt) (ln un nx pl : Nat) (f0 f1 f2 : Nat → Int32) (i : Nat) (hL2 : ln ≤ 600) (hgo : gOK ln g) (hby : ∀ i, i < ln → ¬ f0 i = -1) (hi : i < 9) (sz : Nat) : Met l yX2_takeWord wsX2_takeWord ({ frames := 5, cells := 0, slots := 0, locals := 107 } : Room) (va_Pc [.ref (v 1), .ref (aK i)] (PSc D T aK aV (WIN T v B O g ln un nx pl f0 f1 f2) sz)) (va_Qv (fun (_ : Unit) => True) (fun _ t => QS D T (va_A (WIN T v B O g ln un nx pl f0 f1 f2) sz) (WIN T v B O (takW f0 ln i g) ln un nx pl f0 f1 f2) t) (va_A (WIN T v B O g ln un nx pl f0 f1 f2) sz)) 0 0 (va_A (WIN T v B O g ln un nx pl f0 f1 f2) sz) := by
  refine metCv (cc := cX2_takeWord) (maxL := 2) (by decide) rfl (Nat.le_of_ble_eq_true rfl) ?_
  intro p e s m args below meth c Q ls A hx hb hml hown hts hC hP hK hD hA hS hl hret
  have hown : s.vm.findClass RX2 = some m.cls := hown
  have hl : lv_has ls 2 [(0, .ref (v 1)), (1, .ref (aK i))] := hl
  have i2 : ∀ w ∈ wsX20, w ∈ wsX2_takeWord := by decide +kernel
  have w1 := hts (Cond.fieldLink RX2 25 "MoonComplaintWindow$Loader" "failed" "Z") (List.mem_of_getElem? (i := 1) rfl)
  have w2 := hts (Cond.fieldLink RX2 12 "MoonComplaintWindow$Loader" "input" "LMoonComplaintWindow$Input;") (List.mem_of_getElem? (i := 2) rfl)
  refine lv_aload_n hx hb dX2_takeWord_0 rfl (lv_at hl 0 rfl) ?_
  refine va_get (D := D) (ci := 2) (v := .int (bI g.2.2.2.1)) (C := RX2) (T := TX2) (N := 4) hx hb hts i2 hown hK hP 1 rfl rfl 0 (by decide) w1 (fun _ h9 => h9) rfl dX2_takeWord_1 ?_
  refine lv_if_ne (tgt := 28) hx hb dX2_takeWord_4 (by decide) (fun c4 => ?_) (fun c4 => ?_)
  ·
    have c4 := bI_n0.mp c4
    refine lv_aload_n hx hb dX2_takeWord_28 rfl (lv_at hl 0 rfl) ?_
    refine wrVv (As := []) (rest := []) ⟨hx, hb, hml, hown, hts⟩ (c_X2_refuse l D T v B O g ln un nx pl f0 f1 f2 _) (cwV 0 hts gX2_takeWord_X2_refuse rfl rfl rfl (by decide +kernel) ⟨Nat.le_of_ble_eq_true rfl, Nat.le_of_ble_eq_true rfl⟩) (Foc.rfl _ _) hK hP hD hS hA 1 rfl rfl rfl hl.1 rfl (Nat.le_of_ble_eq_true rfl) ⟨Nat.zero_le _, Nat.zero_le _⟩ dX2_takeWord_29 (fun H locs hP hD hS => ?_)
    have hP : va_P D vwCl (WIN T v B O (refC g) ln un nx pl f0 f1 f2) H := hP
    have hD : va_D A (WIN T v B O (refC g) ln un nx pl f0 f1 f2) := hD
    have hE : (WIN T v B O (refC g) ln un nx pl f0 f1 f2 : va_W) = (WIN T v B O (takW f0 ln i g) ln un nx pl f0 f1 f2) := by unfold takW; first | (rw [tkC_t c4 c15]; done) | (rw [tkC_w c4]; done) | (rw [tkC_f c4 c15]; done)
    exact hret _ _ _ _ dX2_takeWord_32 (by rw [← hE]; exact hP) (by rw [← hE]; exact hD) hS
  ·
    have c4 := bI_0.mp c4
    refine lv_aload_n hx hb dX2_takeWord_7 rfl (lv_at hl 0 rfl) ?_
    refine va_get (D := D) (ci := 2) (v := .ref (v 2)) (C := RX2) (T := TX2) (N := 4) hx hb hts i2 hown hK hP 1 rfl rfl 2 (by decide) w2 (fun _ h9 => h9) rfl dX2_takeWord_8 ?_
    refine lv_aload_n hx hb dX2_takeWord_11 rfl (lv_at hl 1 rfl) ?_
    refine wcVi (As := [.ref (aK i)]) (rest := []) ⟨hx, hb, hml, hown, hts⟩ (c_X1_isWord l D T aK aV v B O g ln un nx pl f0 f1 f2 i hL2 hgo (by omega) _) (cwV 1 hts gX2_takeWord_X1_isWord rfl rfl rfl (by decide +kernel) ⟨Nat.le_of_ble_eq_true rfl, Nat.le_of_ble_eq_true rfl⟩) (Foc.rfl _ _) hC hK hP hD hS hA 2 rfl rfl rfl hl.1 rfl (Nat.le_of_ble_eq_true rfl) ⟨Nat.zero_le _, Nat.zero_le _⟩ dX2_takeWord_12 (fun H locs hP hD hS => ?_)
    have hP : va_P D vwCl (WIN T v B O g ln un nx pl f0 f1 f2) H := hP
    have hD : va_D A (WIN T v B O g ln un nx pl f0 f1 f2) := hD
    refine lv_if_eq (tgt := 28) hx hb dX2_takeWord_15 (by decide) (fun c15 => ?_) (fun c15 => ?_)
    ·
      have c15 := bI_0.mp c15
      refine lv_aload_n hx hb dX2_takeWord_28 rfl (lv_at hl 0 rfl) ?_
      refine wrVv (As := []) (rest := []) ⟨hx, hb, hml, hown, hts⟩ (c_X2_refuse l D T v B O g ln un nx pl f0 f1 f2 _) (cwV 0 hts gX2_takeWord_X2_refuse rfl rfl rfl (by decide +kernel) ⟨Nat.le_of_ble_eq_true rfl, Nat.le_of_ble_eq_true rfl⟩) (Foc.rfl _ _) hK hP hD hS hA 1 rfl rfl rfl hl.1 rfl (Nat.le_of_ble_eq_true rfl) ⟨Nat.zero_le _, Nat.zero_le _⟩ dX2_takeWord_29 (fun H locs hP hD hS => ?_)
      have hP : va_P D vwCl (WIN T v B O (refC g) ln un nx pl f0 f1 f2) H := hP
      have hD : va_D A (WIN T v B O (refC g) ln un nx pl f0 f1 f2) := hD
      have hE : (WIN T v B O (refC g) ln un nx pl f0 f1 f2 : va_W) = (WIN T v B O (takW f0 ln i g) ln un nx pl f0 f1 f2) := by unfold takW; first | (rw [tkC_t c4 c15]; done) | (rw [tkC_w c4]; done) | (rw [tkC_f c4 c15]; done)
      exact hret _ _ _ _ dX2_takeWord_32 (by rw [← hE]; exact hP) (by rw [← hE]; exact hD) hS
    ·
      have c15 := bI_n0.mp c15
      refine lv_aload_n hx hb dX2_takeWord_18 rfl (lv_at hl 0 rfl) ?_
      refine va_get (D := D) (ci := 2) (v := .ref (v 2)) (C := RX2) (T := TX2) (N := 4) hx hb hts i2 hown hK hP 1 rfl rfl 2 (by decide) w2 (fun _ h9 => h9) rfl dX2_takeWord_19 ?_
      refine wrVv (As := []) (rest := []) ⟨hx, hb, hml, hown, hts⟩ (c_X1_advance l D T v B O g ln un nx pl f0 f1 f2 hL2 hgo.2 hby _) (cwV 0 hts gX2_takeWord_X1_advance rfl rfl rfl (by decide +kernel) ⟨Nat.le_of_ble_eq_true rfl, Nat.le_of_ble_eq_true rfl⟩) (Foc.rfl _ _) hK hP hD hS hA 2 rfl rfl rfl hl.1 rfl (Nat.le_of_ble_eq_true rfl) ⟨Nat.zero_le _, Nat.zero_le _⟩ dX2_takeWord_22 (fun H locs hP hD hS => ?_)
      have hP : va_P D vwCl (WIN T v B O (advC f0 ln g) ln un nx pl f0 f1 f2) H := hP
      have hD : va_D A (WIN T v B O (advC f0 ln g) ln un nx pl f0 f1 f2) := hD
      refine lv_goto (tgt := 32) hx hb dX2_takeWord_25 (by decide) ?_
      have hE : (WIN T v B O (advC f0 ln g) ln un nx pl f0 f1 f2 : va_W) = (WIN T v B O (takW f0 ln i g) ln un nx pl f0 f1 f2) := by unfold takW; first | (rw [tkC_t c4 c15]; done) | (rw [tkC_w c4]; done) | (rw [tkC_f c4 c15]; done)
      exact hret _ _ _ _ dX2_takeWord_32 (by rw [← hE]; exact hP) (by rw [← hE]; exact hD) hS

set_option maxHeartbeats 4000000 in
set_option maxRecDepth 100000 in
theorem c_X2_takeSemicolon (l : Launch) (D : va_G) (T : Nat → ClassId) (v : Nat → Nat) (B : Nat → Nat → Nat) (O : Nat → Nat → Nat → Int32) (g : CSt) (ln un nx pl : Nat) (f0 f1 f2 : Nat → Int32) (hL2 : ln ≤ 600) (hgo : gOK ln g) (hby : ∀ i, i < ln → ¬ f0 i = -1) (sz : Nat) : Met l yX2_takeSemicolon wsX2_takeSemicolon ({ frames := 3, cells := 0, slots := 0, locals := 62 } : Room) (va_Pc [.ref (v 1)] (PS D T (WIN T v B O g ln un nx pl f0 f1 f2) sz)) (va_Qv (fun (_ : Unit) => True) (fun _ t => QS D T (va_A (WIN T v B O g ln un nx pl f0 f1 f2) sz) (WIN T v B O (takS f0 ln g) ln un nx pl f0 f1 f2) t) (va_A (WIN T v B O g ln un nx pl f0 f1 f2) sz)) 0 0 (va_A (WIN T v B O g ln un nx pl f0 f1 f2) sz) := by
  refine metSv (cc := cX2_takeSemicolon) (maxL := 1) (by decide) rfl (Nat.le_of_ble_eq_true rfl) ?_
  intro p e s m args below meth c Q ls A hx hb hml hown hts hP hK hD hA hS hl hret
  have hown : s.vm.findClass RX2 = some m.cls := hown
  have hl : lv_has ls 1 [(0, .ref (v 1))] := hl
  have i1 : ∀ w ∈ wsX10, w ∈ wsX2_takeSemicolon := by decide +kernel
  have i2 : ∀ w ∈ wsX20, w ∈ wsX2_takeSemicolon := by decide +kernel
  have w1 := hts (Cond.fieldLink RX2 25 "MoonComplaintWindow$Loader" "failed" "Z") (List.mem_of_getElem? (i := 1) rfl)
  have w2 := hts (Cond.fieldLink RX2 12 "MoonComplaintWindow$Loader" "input" "LMoonComplaintWindow$Input;") (List.mem_of_getElem? (i := 2) rfl)
  have w3 := hts (Cond.fieldLink RX2 66 "MoonComplaintWindow$Input" "kind" "I") (List.mem_of_getElem? (i := 3) rfl)
  refine lv_aload_n hx hb dX2_takeSemicolon_0 rfl (lv_at hl 0 rfl) ?_
  refine va_get (D := D) (ci := 2) (v := .int (bI g.2.2.2.1)) (C := RX2) (T := TX2) (N := 4) hx hb hts i2 hown hK hP 1 rfl rfl 0 (by decide) w1 (fun _ h9 => h9) rfl dX2_takeSemicolon_1 ?_
  refine lv_if_ne (tgt := 28) hx hb dX2_takeSemicolon_4 (by decide) (fun c4 => ?_) (fun c4 => ?_)
  ·
    have c4 := bI_n0.mp c4
    refine lv_aload_n hx hb dX2_takeSemicolon_28 rfl (lv_at hl 0 rfl) ?_
    refine wrVv (As := []) (rest := []) ⟨hx, hb, hml, hown, hts⟩ (c_X2_refuse l D T v B O g ln un nx pl f0 f1 f2 _) (cwV 0 hts gX2_takeSemicolon_X2_refuse rfl rfl rfl (by decide +kernel) ⟨Nat.le_of_ble_eq_true rfl, Nat.le_of_ble_eq_true rfl⟩) (Foc.rfl _ _) hK hP hD hS hA 1 rfl rfl rfl hl.1 rfl (Nat.le_of_ble_eq_true rfl) ⟨Nat.zero_le _, Nat.zero_le _⟩ dX2_takeSemicolon_29 (fun H locs hP hD hS => ?_)
    have hP : va_P D vwCl (WIN T v B O (refC g) ln un nx pl f0 f1 f2) H := hP
    have hD : va_D A (WIN T v B O (refC g) ln un nx pl f0 f1 f2) := hD
    have hE : (WIN T v B O (refC g) ln un nx pl f0 f1 f2 : va_W) = (WIN T v B O (takS f0 ln g) ln un nx pl f0 f1 f2) := by unfold takS; first | (rw [tkC_t c4 (by simpa using c15)]; done) | (rw [tkC_w c4]; done) | (rw [tkC_f c4 (by simpa using c15)]; done)
    exact hret _ _ _ _ dX2_takeSemicolon_32 (by rw [← hE]; exact hP) (by rw [← hE]; exact hD) hS
  ·
    have c4 := bI_0.mp c4
    refine lv_aload_n hx hb dX2_takeSemicolon_7 rfl (lv_at hl 0 rfl) ?_
    refine va_get (D := D) (ci := 2) (v := .ref (v 2)) (C := RX2) (T := TX2) (N := 4) hx hb hts i2 hown hK hP 1 rfl rfl 2 (by decide) w2 (fun _ h9 => h9) rfl dX2_takeSemicolon_8 ?_
    refine va_get (D := D) (ci := 1) (v := .int (g.1)) (C := RX1) (T := TX1) (N := 5) hx hb hts i1 hown hK hP 2 rfl rfl 1 (by decide) w3 (fun _ h9 => h9) rfl dX2_takeSemicolon_11 ?_
    refine lv_iconst (v := 3) hx hb dX2_takeSemicolon_14 (by decide) ?_
    refine lv_icmp_ne (tgt := 28) hx hb dX2_takeSemicolon_15 (by decide) (fun c15 => ?_) (fun c15 => ?_)
    ·
      refine lv_aload_n hx hb dX2_takeSemicolon_28 rfl (lv_at hl 0 rfl) ?_
      refine wrVv (As := []) (rest := []) ⟨hx, hb, hml, hown, hts⟩ (c_X2_refuse l D T v B O g ln un nx pl f0 f1 f2 _) (cwV 0 hts gX2_takeSemicolon_X2_refuse rfl rfl rfl (by decide +kernel) ⟨Nat.le_of_ble_eq_true rfl, Nat.le_of_ble_eq_true rfl⟩) (Foc.rfl _ _) hK hP hD hS hA 1 rfl rfl rfl hl.1 rfl (Nat.le_of_ble_eq_true rfl) ⟨Nat.zero_le _, Nat.zero_le _⟩ dX2_takeSemicolon_29 (fun H locs hP hD hS => ?_)
      have hP : va_P D vwCl (WIN T v B O (refC g) ln un nx pl f0 f1 f2) H := hP
      have hD : va_D A (WIN T v B O (refC g) ln un nx pl f0 f1 f2) := hD
      have hE : (WIN T v B O (refC g) ln un nx pl f0 f1 f2 : va_W) = (WIN T v B O (takS f0 ln g) ln un nx pl f0 f1 f2) := by unfold takS; first | (rw [tkC_t c4 (by simpa using c15)]; done) | (rw [tkC_w c4]; done) | (rw [tkC_f c4 (by simpa using c15)]; done)
      exact hret _ _ _ _ dX2_takeSemicolon_32 (by rw [← hE]; exact hP) (by rw [← hE]; exact hD) hS
    ·
      refine lv_aload_n hx hb dX2_takeSemicolon_18 rfl (lv_at hl 0 rfl) ?_
      refine va_get (D := D) (ci := 2) (v := .ref (v 2)) (C := RX2) (T := TX2) (N := 4) hx hb hts i2 hown hK hP 1 rfl rfl 2 (by decide) w2 (fun _ h9 => h9) rfl dX2_takeSemicolon_19 ?_
      refine wrVv (As := []) (rest := []) ⟨hx, hb, hml, hown, hts⟩ (c_X1_advance l D T v B O g ln un nx pl f0 f1 f2 hL2 hgo.2 hby _) (cwV 0 hts gX2_takeSemicolon_X1_advance rfl rfl rfl (by decide +kernel) ⟨Nat.le_of_ble_eq_true rfl, Nat.le_of_ble_eq_true rfl⟩) (Foc.rfl _ _) hK hP hD hS hA 2 rfl rfl rfl hl.1 rfl (Nat.le_of_ble_eq_true rfl) ⟨Nat.zero_le _, Nat.zero_le _⟩ dX2_takeSemicolon_22 (fun H locs hP hD hS => ?_)
      have hP : va_P D vwCl (WIN T v B O (advC f0 ln g) ln un nx pl f0 f1 f2) H := hP
      have hD : va_D A (WIN T v B O (advC f0 ln g) ln un nx pl f0 f1 f2) := hD
      refine lv_goto (tgt := 32) hx hb dX2_takeSemicolon_25 (by decide) ?_
      have hE : (WIN T v B O (advC f0 ln g) ln un nx pl f0 f1 f2 : va_W) = (WIN T v B O (takS f0 ln g) ln un nx pl f0 f1 f2) := by unfold takS; first | (rw [tkC_t c4 (by simpa using c15)]; done) | (rw [tkC_w c4]; done) | (rw [tkC_f c4 (by simpa using c15)]; done)
      exact hret _ _ _ _ dX2_takeSemicolon_32 (by rw [← hE]; exact hP) (by rw [← hE]; exact hD) hS

set_option maxHeartbeats 4000000 in
set_option maxRecDepth 100000 in
theorem c_X2_takeNumber (l : Launch) (D : va_G) (T : Nat → ClassId) (v : Nat → Nat) (B : Nat → Nat → Nat) (O : Nat → Nat → Nat → Int32) (g : CSt) (ln un nx pl : Nat) (f0 f1 f2 : Nat → Int32) (z : Int32) (z1 : Int32) (hL2 : ln ≤ 600) (hgo : gOK ln g) (hby : ∀ i, i < ln → ¬ f0 i = -1) (sz : Nat) : Met l yX2_takeNumber wsX2_takeNumber ({ frames := 3, cells := 0, slots := 0, locals := 62 } : Room) (va_Pc [.ref (v 1), .int (z), .int (z1)] (PS D T (WIN T v B O g ln un nx pl f0 f1 f2) sz)) (va_Qi (fun r9 (_ : Unit) => r9 = (numV f0 z z1 g)) (fun _ t => QS D T (va_A (WIN T v B O g ln un nx pl f0 f1 f2) sz) (WIN T v B O (takN f0 ln z z1 g) ln un nx pl f0 f1 f2) t) (va_A (WIN T v B O g ln un nx pl f0 f1 f2) sz)) 0 0 (va_A (WIN T v B O g ln un nx pl f0 f1 f2) sz) := by
  refine metSi (cc := cX2_takeNumber) (maxL := 4) (ty := .int) (by decide) rfl (by rfl) (Nat.le_of_ble_eq_true rfl) ?_
  intro p e s m args below meth c Q ls A hx hb hml hown hts hP hK hD hA hS hl hret
  have hown : s.vm.findClass RX2 = some m.cls := hown
  have hl : lv_has ls 4 [(0, .ref (v 1)), (1, .int (z)), (2, .int (z1))] := hl
  have i2 : ∀ w ∈ wsX20, w ∈ wsX2_takeNumber := by decide +kernel
  have w1 := hts (Cond.fieldLink RX2 12 "MoonComplaintWindow$Loader" "input" "LMoonComplaintWindow$Input;") (List.mem_of_getElem? (i := 1) rfl)
  have w2 := hts (Cond.fieldLink RX2 25 "MoonComplaintWindow$Loader" "failed" "Z") (List.mem_of_getElem? (i := 2) rfl)
  refine lv_aload_n hx hb dX2_takeNumber_0 rfl (lv_at hl 0 rfl) ?_
  refine va_get (D := D) (ci := 2) (v := .ref (v 2)) (C := RX2) (T := TX2) (N := 4) hx hb hts i2 hown hK hP 1 rfl rfl 2 (by decide) w1 (fun _ h9 => h9) rfl dX2_takeNumber_1 ?_
  refine rdV (As := []) (rest := []) ⟨hx, hb, hml, hown, hts⟩ (c_X1_number l D T v B O g ln un nx pl f0 f1 f2 hL2 hgo) (cwV 0 hts gX2_takeNumber_X1_number rfl rfl rfl (by decide +kernel) ⟨Nat.le_of_ble_eq_true rfl, Nat.le_of_ble_eq_true rfl⟩) hK hP 2 rfl rfl rfl hl.1 rfl (Nat.le_of_ble_eq_true rfl) ⟨Nat.zero_le _, Nat.zero_le _⟩ dX2_takeNumber_4 ?_
  refine lv_istore_n (lv' := [(3, .int (numC f0 g)), (0, .ref (v 1)), (1, .int (z)), (2, .int (z1))]) hx hb dX2_takeNumber_7 rfl hl (by decide) rfl (fun ls hl => ?_)
  refine lv_aload_n hx hb dX2_takeNumber_8 rfl (lv_at hl 1 rfl) ?_
  refine va_get (D := D) (ci := 2) (v := .int (bI g.2.2.2.1)) (C := RX2) (T := TX2) (N := 4) hx hb hts i2 hown hK hP 1 rfl rfl 0 (by decide) w2 (fun _ h9 => h9) rfl dX2_takeNumber_9 ?_
  refine lv_if_ne (tgt := 25) hx hb dX2_takeNumber_12 (by decide) (fun c12 => ?_) (fun c12 => ?_)
  ·
    have c12 := bI_n0.mp c12
    refine lv_aload_n hx hb dX2_takeNumber_25 rfl (lv_at hl 1 rfl) ?_
    refine wrVv (As := []) (rest := []) ⟨hx, hb, hml, hown, hts⟩ (c_X2_refuse l D T v B O g ln un nx pl f0 f1 f2 _) (cwV 0 hts gX2_takeNumber_X2_refuse rfl rfl rfl (by decide +kernel) ⟨Nat.le_of_ble_eq_true rfl, Nat.le_of_ble_eq_true rfl⟩) (Foc.rfl _ _) hK hP hD hS hA 1 rfl rfl rfl hl.1 rfl (Nat.le_of_ble_eq_true rfl) ⟨Nat.zero_le _, Nat.zero_le _⟩ dX2_takeNumber_26 (fun H locs hP hD hS => ?_)
    have hP : va_P D vwCl (WIN T v B O (refC g) ln un nx pl f0 f1 f2) H := hP
    have hD : va_D A (WIN T v B O (refC g) ln un nx pl f0 f1 f2) := hD
    refine lv_iload_n hx hb dX2_takeNumber_29 rfl (lv_at hl 2 rfl) ?_
    refine endI (r := numV f0 z z1 g) (by unfold numV; first | (rw [c12, hb9]; rfl) | (rw [c12]; rfl)) ?_
    have hE : (WIN T v B O (refC g) ln un nx pl f0 f1 f2 : va_W) = (WIN T v B O (takN f0 ln z z1 g) ln un nx pl f0 f1 f2) := by unfold takN; first | (rw [tkC_t c12 hb9]; done) | (rw [tkC_w c12]; done) | (rw [tkC_f c12 hb9]; done)
    exact hret _ _ _ _ dX2_takeNumber_30 (by rw [← hE]; exact hP) (by rw [← hE]; exact hD) hS
  ·
    have c12 := bI_0.mp c12
    refine lv_iload_n hx hb dX2_takeNumber_15 rfl (lv_at hl 0 rfl) ?_
    refine lv_iload_n hx hb dX2_takeNumber_16 rfl (lv_at hl 2 rfl) ?_
    refine lv_icmp_lt (tgt := 25) hx hb dX2_takeNumber_17 (by decide) (fun c17 => ?_) (fun c17 => ?_)
    ·
      have hb9 : rg (numC f0 g) z z1 = false := by simp only [rg, Bool.and_eq_false_iff, decide_eq_false_iff_not]; exact Or.inl (Int32.not_le.mpr c17)
      refine lv_aload_n hx hb dX2_takeNumber_25 rfl (lv_at hl 1 rfl) ?_
      refine wrVv (As := []) (rest := []) ⟨hx, hb, hml, hown, hts⟩ (c_X2_refuse l D T v B O g ln un nx pl f0 f1 f2 _) (cwV 0 hts gX2_takeNumber_X2_refuse rfl rfl rfl (by decide +kernel) ⟨Nat.le_of_ble_eq_true rfl, Nat.le_of_ble_eq_true rfl⟩) (Foc.rfl _ _) hK hP hD hS hA 1 rfl rfl rfl hl.1 rfl (Nat.le_of_ble_eq_true rfl) ⟨Nat.zero_le _, Nat.zero_le _⟩ dX2_takeNumber_26 (fun H locs hP hD hS => ?_)
      have hP : va_P D vwCl (WIN T v B O (refC g) ln un nx pl f0 f1 f2) H := hP
      have hD : va_D A (WIN T v B O (refC g) ln un nx pl f0 f1 f2) := hD
      refine lv_iload_n hx hb dX2_takeNumber_29 rfl (lv_at hl 2 rfl) ?_
      refine endI (r := numV f0 z z1 g) (by unfold numV; first | (rw [c12, hb9]; rfl) | (rw [c12]; rfl)) ?_
      have hE : (WIN T v B O (refC g) ln un nx pl f0 f1 f2 : va_W) = (WIN T v B O (takN f0 ln z z1 g) ln un nx pl f0 f1 f2) := by unfold takN; first | (rw [tkC_t c12 hb9]; done) | (rw [tkC_w c12]; done) | (rw [tkC_f c12 hb9]; done)
      exact hret _ _ _ _ dX2_takeNumber_30 (by rw [← hE]; exact hP) (by rw [← hE]; exact hD) hS
    ·
      refine lv_iload_n hx hb dX2_takeNumber_20 rfl (lv_at hl 0 rfl) ?_
      refine lv_iload_n hx hb dX2_takeNumber_21 rfl (lv_at hl 3 rfl) ?_
      refine lv_icmp_le (tgt := 31) hx hb dX2_takeNumber_22 (by decide) (fun c22 => ?_) (fun c22 => ?_)
      ·
        have hb9 : rg (numC f0 g) z z1 = true := by simp only [rg, Bool.and_eq_true, decide_eq_true_eq]; exact ⟨Int32.not_lt.mp c17, c22⟩
        refine lv_aload_n hx hb dX2_takeNumber_31 rfl (lv_at hl 1 rfl) ?_
        refine va_get (D := D) (ci := 2) (v := .ref (v 2)) (C := RX2) (T := TX2) (N := 4) hx hb hts i2 hown hK hP 1 rfl rfl 2 (by decide) w1 (fun _ h9 => h9) rfl dX2_takeNumber_32 ?_
        refine wrVv (As := []) (rest := []) ⟨hx, hb, hml, hown, hts⟩ (c_X1_advance l D T v B O g ln un nx pl f0 f1 f2 hL2 hgo.2 hby _) (cwV 0 hts gX2_takeNumber_X1_advance rfl rfl rfl (by decide +kernel) ⟨Nat.le_of_ble_eq_true rfl, Nat.le_of_ble_eq_true rfl⟩) (Foc.rfl _ _) hK hP hD hS hA 2 rfl rfl rfl hl.1 rfl (Nat.le_of_ble_eq_true rfl) ⟨Nat.zero_le _, Nat.zero_le _⟩ dX2_takeNumber_35 (fun H locs hP hD hS => ?_)
        have hP : va_P D vwCl (WIN T v B O (advC f0 ln g) ln un nx pl f0 f1 f2) H := hP
        have hD : va_D A (WIN T v B O (advC f0 ln g) ln un nx pl f0 f1 f2) := hD
        refine lv_iload_n hx hb dX2_takeNumber_38 rfl (lv_at hl 0 rfl) ?_
        refine endI (r := numV f0 z z1 g) (by unfold numV; first | (rw [c12, hb9]; rfl) | (rw [c12]; rfl)) ?_
        have hE : (WIN T v B O (advC f0 ln g) ln un nx pl f0 f1 f2 : va_W) = (WIN T v B O (takN f0 ln z z1 g) ln un nx pl f0 f1 f2) := by unfold takN; first | (rw [tkC_t c12 hb9]; done) | (rw [tkC_w c12]; done) | (rw [tkC_f c12 hb9]; done)
        exact hret _ _ _ _ dX2_takeNumber_39 (by rw [← hE]; exact hP) (by rw [← hE]; exact hD) hS
      ·
        have hb9 : rg (numC f0 g) z z1 = false := by simp only [rg, Bool.and_eq_false_iff, decide_eq_false_iff_not]; exact Or.inr c22
        refine lv_aload_n hx hb dX2_takeNumber_25 rfl (lv_at hl 1 rfl) ?_
        refine wrVv (As := []) (rest := []) ⟨hx, hb, hml, hown, hts⟩ (c_X2_refuse l D T v B O g ln un nx pl f0 f1 f2 _) (cwV 0 hts gX2_takeNumber_X2_refuse rfl rfl rfl (by decide +kernel) ⟨Nat.le_of_ble_eq_true rfl, Nat.le_of_ble_eq_true rfl⟩) (Foc.rfl _ _) hK hP hD hS hA 1 rfl rfl rfl hl.1 rfl (Nat.le_of_ble_eq_true rfl) ⟨Nat.zero_le _, Nat.zero_le _⟩ dX2_takeNumber_26 (fun H locs hP hD hS => ?_)
        have hP : va_P D vwCl (WIN T v B O (refC g) ln un nx pl f0 f1 f2) H := hP
        have hD : va_D A (WIN T v B O (refC g) ln un nx pl f0 f1 f2) := hD
        refine lv_iload_n hx hb dX2_takeNumber_29 rfl (lv_at hl 2 rfl) ?_
        refine endI (r := numV f0 z z1 g) (by unfold numV; first | (rw [c12, hb9]; rfl) | (rw [c12]; rfl)) ?_
        have hE : (WIN T v B O (refC g) ln un nx pl f0 f1 f2 : va_W) = (WIN T v B O (takN f0 ln z z1 g) ln un nx pl f0 f1 f2) := by unfold takN; first | (rw [tkC_t c12 hb9]; done) | (rw [tkC_w c12]; done) | (rw [tkC_f c12 hb9]; done)
        exact hret _ _ _ _ dX2_takeNumber_30 (by rw [← hE]; exact hP) (by rw [← hE]; exact hD) hS

set_option maxHeartbeats 4000000 in
set_option maxRecDepth 100000 in
theorem c_X2_sortOfWord (l : Launch) (D : va_G) (T : Nat → ClassId) (aK aV : Nat → Nat) (v : Nat → Nat) (B : Nat → Nat → Nat) (O : Nat → Nat → Nat → Int32) (g : CSt) (ln un nx pl : Nat) (f0 f1 f2 : Nat → Int32) (hL2 : ln ≤ 600) (hgo : gOK ln g) (sz : Nat) : Met l yX2_sortOfWord wsX2_sortOfWord ({ frames := 5, cells := 0, slots := 0, locals := 107 } : Room) (va_Pc [.ref (v 1)] (PSc D T aK aV (WIN T v B O g ln un nx pl f0 f1 f2) sz)) (va_Qi (fun r9 (_ : Unit) => r9 = (sortC f0 g)) (fun _ t => QS D T (va_A (WIN T v B O g ln un nx pl f0 f1 f2) sz) (WIN T v B O g ln un nx pl f0 f1 f2) t) (va_A (WIN T v B O g ln un nx pl f0 f1 f2) sz)) 0 0 (va_A (WIN T v B O g ln un nx pl f0 f1 f2) sz) := by
  refine metCi (cc := cX2_sortOfWord) (maxL := 1) (ty := .int) (by decide) rfl (by rfl) (Nat.le_of_ble_eq_true rfl) ?_
  intro p e s m args below meth c Q ls A hx hb hml hown hts hC hP hK hD hA hS hl hret
  have hown : s.vm.findClass RX2 = some m.cls := hown
  have hl : lv_has ls 1 [(0, .ref (v 1))] := hl
  have i2 : ∀ w ∈ wsX20, w ∈ wsX2_sortOfWord := by decide +kernel
  have w1 := hts (Cond.fieldLink RX2 12 "MoonComplaintWindow$Loader" "input" "LMoonComplaintWindow$Input;") (List.mem_of_getElem? (i := 1) rfl)
  refine lv_aload_n hx hb dX2_sortOfWord_0 rfl (lv_at hl 0 rfl) ?_
  refine va_get (D := D) (ci := 2) (v := .ref (v 2)) (C := RX2) (T := TX2) (N := 4) hx hb hts i2 hown hK hP 1 rfl rfl 2 (by decide) w1 (fun _ h9 => h9) rfl dX2_sortOfWord_1 ?_
  refine va_ldcS hx hb hown (show vk_R RX2 141 "glare" (aK 5) s from hC.2.1 5 (by decide)) dX2_sortOfWord_4 ?_
  refine wcVi (As := [.ref (aK 5)]) (rest := []) ⟨hx, hb, hml, hown, hts⟩ (c_X1_isWord l D T aK aV v B O g ln un nx pl f0 f1 f2 5 hL2 hgo (by omega) _) (cwV 1 hts gX2_sortOfWord_X1_isWord rfl rfl rfl (by decide +kernel) ⟨Nat.le_of_ble_eq_true rfl, Nat.le_of_ble_eq_true rfl⟩) (Foc.rfl _ _) hC hK hP hD hS hA 2 rfl rfl rfl hl.1 rfl (Nat.le_of_ble_eq_true rfl) ⟨Nat.zero_le _, Nat.zero_le _⟩ dX2_sortOfWord_6 (fun H locs hP hD hS => ?_)
  have hP : va_P D vwCl (WIN T v B O g ln un nx pl f0 f1 f2) H := hP
  have hD : va_D A (WIN T v B O g ln un nx pl f0 f1 f2) := hD
  refine lv_if_eq (tgt := 14) hx hb dX2_sortOfWord_9 (by decide) (fun c9 => ?_) (fun c9 => ?_)
  ·
    have c9 := bI_0.mp c9
    refine lv_aload_n hx hb dX2_sortOfWord_14 rfl (lv_at hl 0 rfl) ?_
    refine va_get (D := D) (ci := 2) (v := .ref (v 2)) (C := RX2) (T := TX2) (N := 4) hx hb hts i2 hown hK hP 1 rfl rfl 2 (by decide) w1 (fun _ h9 => h9) rfl dX2_sortOfWord_15 ?_
    refine va_ldcS hx hb hown (show vk_R RX2 143 "gloom" (aK 6) s from hC.2.1 6 (by decide)) dX2_sortOfWord_18 ?_
    refine wcVi (As := [.ref (aK 6)]) (rest := []) ⟨hx, hb, hml, hown, hts⟩ (c_X1_isWord l D T aK aV v B O g ln un nx pl f0 f1 f2 6 hL2 hgo (by omega) _) (cwV 1 hts gX2_sortOfWord_X1_isWord rfl rfl rfl (by decide +kernel) ⟨Nat.le_of_ble_eq_true rfl, Nat.le_of_ble_eq_true rfl⟩) (Foc.rfl _ _) hC hK hP hD hS hA 2 rfl rfl rfl hl.1 rfl (Nat.le_of_ble_eq_true rfl) ⟨Nat.zero_le _, Nat.zero_le _⟩ dX2_sortOfWord_20 (fun H locs hP hD hS => ?_)
    have hP : va_P D vwCl (WIN T v B O g ln un nx pl f0 f1 f2) H := hP
    have hD : va_D A (WIN T v B O g ln un nx pl f0 f1 f2) := hD
    refine lv_if_eq (tgt := 28) hx hb dX2_sortOfWord_23 (by decide) (fun c23 => ?_) (fun c23 => ?_)
    ·
      have c23 := bI_0.mp c23
      refine lv_aload_n hx hb dX2_sortOfWord_28 rfl (lv_at hl 0 rfl) ?_
      refine va_get (D := D) (ci := 2) (v := .ref (v 2)) (C := RX2) (T := TX2) (N := 4) hx hb hts i2 hown hK hP 1 rfl rfl 2 (by decide) w1 (fun _ h9 => h9) rfl dX2_sortOfWord_29 ?_
      refine va_ldcS hx hb hown (show vk_R RX2 145 "tide" (aK 7) s from hC.2.1 7 (by decide)) dX2_sortOfWord_32 ?_
      refine wcVi (As := [.ref (aK 7)]) (rest := []) ⟨hx, hb, hml, hown, hts⟩ (c_X1_isWord l D T aK aV v B O g ln un nx pl f0 f1 f2 7 hL2 hgo (by omega) _) (cwV 1 hts gX2_sortOfWord_X1_isWord rfl rfl rfl (by decide +kernel) ⟨Nat.le_of_ble_eq_true rfl, Nat.le_of_ble_eq_true rfl⟩) (Foc.rfl _ _) hC hK hP hD hS hA 2 rfl rfl rfl hl.1 rfl (Nat.le_of_ble_eq_true rfl) ⟨Nat.zero_le _, Nat.zero_le _⟩ dX2_sortOfWord_34 (fun H locs hP hD hS => ?_)
      have hP : va_P D vwCl (WIN T v B O g ln un nx pl f0 f1 f2) H := hP
      have hD : va_D A (WIN T v B O g ln un nx pl f0 f1 f2) := hD
      refine lv_if_eq (tgt := 42) hx hb dX2_sortOfWord_37 (by decide) (fun c37 => ?_) (fun c37 => ?_)
      ·
        have c37 := bI_0.mp c37
        refine lv_aload_n hx hb dX2_sortOfWord_42 rfl (lv_at hl 0 rfl) ?_
        refine va_get (D := D) (ci := 2) (v := .ref (v 2)) (C := RX2) (T := TX2) (N := 4) hx hb hts i2 hown hK hP 1 rfl rfl 2 (by decide) w1 (fun _ h9 => h9) rfl dX2_sortOfWord_43 ?_
        refine va_ldcS hx hb hown (show vk_R RX2 147 "face" (aK 8) s from hC.2.1 8 (by decide)) dX2_sortOfWord_46 ?_
        refine wcVi (As := [.ref (aK 8)]) (rest := []) ⟨hx, hb, hml, hown, hts⟩ (c_X1_isWord l D T aK aV v B O g ln un nx pl f0 f1 f2 8 hL2 hgo (by omega) _) (cwV 1 hts gX2_sortOfWord_X1_isWord rfl rfl rfl (by decide +kernel) ⟨Nat.le_of_ble_eq_true rfl, Nat.le_of_ble_eq_true rfl⟩) (Foc.rfl _ _) hC hK hP hD hS hA 2 rfl rfl rfl hl.1 rfl (Nat.le_of_ble_eq_true rfl) ⟨Nat.zero_le _, Nat.zero_le _⟩ dX2_sortOfWord_48 (fun H locs hP hD hS => ?_)
        have hP : va_P D vwCl (WIN T v B O g ln un nx pl f0 f1 f2) H := hP
        have hD : va_D A (WIN T v B O g ln un nx pl f0 f1 f2) := hD
        refine lv_if_eq (tgt := 58) hx hb dX2_sortOfWord_51 (by decide) (fun c51 => ?_) (fun c51 => ?_)
        ·
          have c51 := bI_0.mp c51
          refine lv_iconst (v := -1) hx hb dX2_sortOfWord_58 (by decide) ?_
          refine endI (r := sortC f0 g) (by simp [sortC, c9, c23, c37, c51]) ?_
          exact hret _ _ _ _ dX2_sortOfWord_59 hP hD hS
        ·
          have c51 := bI_n0.mp c51
          refine lv_iconst (v := 3) hx hb dX2_sortOfWord_54 (by decide) ?_
          refine lv_goto (tgt := 59) hx hb dX2_sortOfWord_55 (by decide) ?_
          refine endI (r := sortC f0 g) (by simp [sortC, c9, c23, c37, c51]) ?_
          exact hret _ _ _ _ dX2_sortOfWord_59 hP hD hS
      ·
        have c37 := bI_n0.mp c37
        refine lv_iconst (v := 2) hx hb dX2_sortOfWord_40 (by decide) ?_
        refine endI (r := sortC f0 g) (by simp [sortC, c9, c23, c37]) ?_
        exact hret _ _ _ _ dX2_sortOfWord_41 hP hD hS
    ·
      have c23 := bI_n0.mp c23
      refine lv_iconst (v := 1) hx hb dX2_sortOfWord_26 (by decide) ?_
      refine endI (r := sortC f0 g) (by simp [sortC, c9, c23]) ?_
      exact hret _ _ _ _ dX2_sortOfWord_27 hP hD hS
  ·
    have c9 := bI_n0.mp c9
    refine lv_iconst (v := 0) hx hb dX2_sortOfWord_12 (by decide) ?_
    refine endI (r := sortC f0 g) (by simp [sortC, c9]) ?_
    exact hret _ _ _ _ dX2_sortOfWord_13 hP hD hS

set_option maxHeartbeats 4000000 in
set_option maxRecDepth 100000 in
theorem c_X2_takeSort (l : Launch) (D : va_G) (T : Nat → ClassId) (aK aV : Nat → Nat) (v : Nat → Nat) (B : Nat → Nat → Nat) (O : Nat → Nat → Nat → Int32) (g : CSt) (ln un nx pl : Nat) (f0 f1 f2 : Nat → Int32) (z : Int32) (N : Nat) (hL2 : ln ≤ 600) (hgo : gOK ln g) (hby : ∀ i, i < ln → ¬ f0 i = -1) (hN : O 2 0 7 = nI N) (hN2 : N ≤ 24) (sz : Nat) : Met l yX2_takeSort wsX2_takeSort ({ frames := 6, cells := 0, slots := 0, locals := 127 } : Room) (va_Pc [.ref (v 1), .ref ((B 2) 6), .int (z)] (PSc D T aK aV (WIN T v B O g ln un nx pl f0 f1 f2) sz)) (va_Qi (fun r9 (_ : Unit) => r9 = (sortV f0 (O 2) z N g)) (fun _ t => QS D T (va_A (WIN T v B O g ln un nx pl f0 f1 f2) sz) (WIN T v B O (takT f0 ln (O 2) z N g) ln un nx pl f0 f1 f2) t) (va_A (WIN T v B O g ln un nx pl f0 f1 f2) sz)) 0 0 (va_A (WIN T v B O g ln un nx pl f0 f1 f2) sz) := by
  refine metCi (cc := cX2_takeSort) (maxL := 4) (ty := .int) (by decide) rfl (by rfl) (Nat.le_of_ble_eq_true rfl) ?_
  intro p e s m args below meth c Q ls A hx hb hml hown hts hC hP hK hD hA hS hl hret
  have hown : s.vm.findClass RX2 = some m.cls := hown
  have hl : lv_has ls 4 [(0, .ref (v 1)), (1, .ref ((B 2) 6)), (2, .int (z))] := hl
  have i2 : ∀ w ∈ wsX20, w ∈ wsX2_takeSort := by decide +kernel
  have w1 := hts (Cond.fieldLink RX2 25 "MoonComplaintWindow$Loader" "failed" "Z") (List.mem_of_getElem? (i := 1) rfl)
  have w2 := hts (Cond.fieldLink RX2 12 "MoonComplaintWindow$Loader" "input" "LMoonComplaintWindow$Input;") (List.mem_of_getElem? (i := 2) rfl)
  refine lv_aload_n hx hb dX2_takeSort_0 rfl (lv_at hl 0 rfl) ?_
  refine wcVi (As := []) (rest := []) ⟨hx, hb, hml, hown, hts⟩ (c_X2_sortOfWord l D T aK aV v B O g ln un nx pl f0 f1 f2 (by first | omega | assumption | decide) (by first | omega | assumption | decide) _) (cwV 0 hts gX2_takeSort_X2_sortOfWord rfl rfl rfl (by decide +kernel) ⟨Nat.le_of_ble_eq_true rfl, Nat.le_of_ble_eq_true rfl⟩) (Foc.rfl _ _) hC hK hP hD hS hA 1 rfl rfl rfl hl.1 rfl (Nat.le_of_ble_eq_true rfl) ⟨Nat.zero_le _, Nat.zero_le _⟩ dX2_takeSort_1 (fun H locs hP hD hS => ?_)
  have hP : va_P D vwCl (WIN T v B O g ln un nx pl f0 f1 f2) H := hP
  have hD : va_D A (WIN T v B O g ln un nx pl f0 f1 f2) := hD
  refine lv_istore_n (lv' := [(3, .int (sortC f0 g)), (0, .ref (v 1)), (1, .ref ((B 2) 6)), (2, .int (z))]) hx hb dX2_takeSort_4 rfl hl (by decide) rfl (fun ls hl => ?_)
  refine lv_aload_n hx hb dX2_takeSort_5 rfl (lv_at hl 1 rfl) ?_
  refine va_get (D := D) (ci := 2) (v := .int (bI g.2.2.2.1)) (C := RX2) (T := TX2) (N := 4) hx hb hts i2 hown hK hP 1 rfl rfl 0 (by decide) w1 (fun _ h9 => h9) rfl dX2_takeSort_6 ?_
  refine lv_if_ne (tgt := 27) hx hb dX2_takeSort_9 (by decide) (fun c9 => ?_) (fun c9 => ?_)
  ·
    have c9 := bI_n0.mp c9
    refine lv_aload_n hx hb dX2_takeSort_27 rfl (lv_at hl 1 rfl) ?_
    refine wrVv (As := []) (rest := []) ⟨hx, hb, hml, hown, hts⟩ (c_X2_refuse l D T v B O g ln un nx pl f0 f1 f2 _) (cwV 0 hts gX2_takeSort_X2_refuse rfl rfl rfl (by decide +kernel) ⟨Nat.le_of_ble_eq_true rfl, Nat.le_of_ble_eq_true rfl⟩) (Foc.rfl _ _) hK hP hD hS hA 1 rfl rfl rfl hl.1 rfl (Nat.le_of_ble_eq_true rfl) ⟨Nat.zero_le _, Nat.zero_le _⟩ dX2_takeSort_28 (fun H locs hP hD hS => ?_)
    have hP : va_P D vwCl (WIN T v B O (refC g) ln un nx pl f0 f1 f2) H := hP
    have hD : va_D A (WIN T v B O (refC g) ln un nx pl f0 f1 f2) := hD
    refine lv_iconst (v := 0) hx hb dX2_takeSort_31 (by decide) ?_
    refine endI (r := sortV f0 (O 2) z N g) (by unfold sortV; first | (rw [c9, hb9]; rfl) | (rw [c9]; rfl)) ?_
    have hE : (WIN T v B O (refC g) ln un nx pl f0 f1 f2 : va_W) = (WIN T v B O (takT f0 ln (O 2) z N g) ln un nx pl f0 f1 f2) := by unfold takT; first | (rw [tkC_t c9 hb9]; done) | (rw [tkC_w c9]; done) | (rw [tkC_f c9 hb9]; done)
    exact hret _ _ _ _ dX2_takeSort_32 (by rw [← hE]; exact hP) (by rw [← hE]; exact hD) hS
  ·
    have c9 := bI_0.mp c9
    refine lv_iload_n hx hb dX2_takeSort_12 rfl (lv_at hl 0 rfl) ?_
    refine lv_iconst (v := -1) hx hb dX2_takeSort_13 (by decide) ?_
    refine lv_icmp_eq (tgt := 27) hx hb dX2_takeSort_14 (by decide) (fun c14 => ?_) (fun c14 => ?_)
    ·
      have hb9 : srtB f0 (O 2) z N g = false := by simp [srtB, c14]
      refine lv_aload_n hx hb dX2_takeSort_27 rfl (lv_at hl 1 rfl) ?_
      refine wrVv (As := []) (rest := []) ⟨hx, hb, hml, hown, hts⟩ (c_X2_refuse l D T v B O g ln un nx pl f0 f1 f2 _) (cwV 0 hts gX2_takeSort_X2_refuse rfl rfl rfl (by decide +kernel) ⟨Nat.le_of_ble_eq_true rfl, Nat.le_of_ble_eq_true rfl⟩) (Foc.rfl _ _) hK hP hD hS hA 1 rfl rfl rfl hl.1 rfl (Nat.le_of_ble_eq_true rfl) ⟨Nat.zero_le _, Nat.zero_le _⟩ dX2_takeSort_28 (fun H locs hP hD hS => ?_)
      have hP : va_P D vwCl (WIN T v B O (refC g) ln un nx pl f0 f1 f2) H := hP
      have hD : va_D A (WIN T v B O (refC g) ln un nx pl f0 f1 f2) := hD
      refine lv_iconst (v := 0) hx hb dX2_takeSort_31 (by decide) ?_
      refine endI (r := sortV f0 (O 2) z N g) (by unfold sortV; first | (rw [c9, hb9]; rfl) | (rw [c9]; rfl)) ?_
      have hE : (WIN T v B O (refC g) ln un nx pl f0 f1 f2 : va_W) = (WIN T v B O (takT f0 ln (O 2) z N g) ln un nx pl f0 f1 f2) := by unfold takT; first | (rw [tkC_t c9 hb9]; done) | (rw [tkC_w c9]; done) | (rw [tkC_f c9 hb9]; done)
      exact hret _ _ _ _ dX2_takeSort_32 (by rw [← hE]; exact hP) (by rw [← hE]; exact hD) hS
    ·
      refine lv_aload_n hx hb dX2_takeSort_17 rfl (lv_at hl 2 rfl) ?_
      refine lv_iload_n hx hb dX2_takeSort_18 rfl (lv_at hl 3 rfl) ?_
      refine lv_iload_n hx hb dX2_takeSort_19 rfl (lv_at hl 0 rfl) ?_
      refine rdV (As := [.int (z), .int (sortC f0 g)]) (rest := []) ⟨hx, hb, hml, hown, hts⟩ (c_X5_findWaiting l D T (B 2) (O 2) z (sortC f0 g) N hN hN2) (cwV 2 hts gX2_takeSort_X5_findWaiting rfl rfl rfl (by decide +kernel) ⟨Nat.le_of_ble_eq_true rfl, Nat.le_of_ble_eq_true rfl⟩) hK ((WIN_off (j := 2) (by decide) (O 0)).subP hP) 6 rfl rfl rfl hl.1 rfl (Nat.le_of_ble_eq_true rfl) ⟨Nat.zero_le _, Nat.zero_le _⟩ dX2_takeSort_20 ?_
      refine lv_iconst (v := -1) hx hb dX2_takeSort_23 (by decide) ?_
      refine lv_icmp_eq (tgt := 33) hx hb dX2_takeSort_24 (by decide) (fun c24 => ?_) (fun c24 => ?_)
      ·
        have hb9 : srtB f0 (O 2) z N g = true := by simp [srtB, c14, (oI_m1 (fun j h => by have := (findC_lt h).1; omega)).mp c24]
        refine lv_aload_n hx hb dX2_takeSort_33 rfl (lv_at hl 1 rfl) ?_
        refine va_get (D := D) (ci := 2) (v := .ref (v 2)) (C := RX2) (T := TX2) (N := 4) hx hb hts i2 hown hK hP 1 rfl rfl 2 (by decide) w2 (fun _ h9 => h9) rfl dX2_takeSort_34 ?_
        refine wrVv (As := []) (rest := []) ⟨hx, hb, hml, hown, hts⟩ (c_X1_advance l D T v B O g ln un nx pl f0 f1 f2 hL2 hgo.2 hby _) (cwV 0 hts gX2_takeSort_X1_advance rfl rfl rfl (by decide +kernel) ⟨Nat.le_of_ble_eq_true rfl, Nat.le_of_ble_eq_true rfl⟩) (Foc.rfl _ _) hK hP hD hS hA 2 rfl rfl rfl hl.1 rfl (Nat.le_of_ble_eq_true rfl) ⟨Nat.zero_le _, Nat.zero_le _⟩ dX2_takeSort_37 (fun H locs hP hD hS => ?_)
        have hP : va_P D vwCl (WIN T v B O (advC f0 ln g) ln un nx pl f0 f1 f2) H := hP
        have hD : va_D A (WIN T v B O (advC f0 ln g) ln un nx pl f0 f1 f2) := hD
        refine lv_iload_n hx hb dX2_takeSort_40 rfl (lv_at hl 0 rfl) ?_
        refine endI (r := sortV f0 (O 2) z N g) (by unfold sortV; first | (rw [c9, hb9]; rfl) | (rw [c9]; rfl)) ?_
        have hE : (WIN T v B O (advC f0 ln g) ln un nx pl f0 f1 f2 : va_W) = (WIN T v B O (takT f0 ln (O 2) z N g) ln un nx pl f0 f1 f2) := by unfold takT; first | (rw [tkC_t c9 hb9]; done) | (rw [tkC_w c9]; done) | (rw [tkC_f c9 hb9]; done)
        exact hret _ _ _ _ dX2_takeSort_41 (by rw [← hE]; exact hP) (by rw [← hE]; exact hD) hS
      ·
        have hb9 : srtB f0 (O 2) z N g = false := by
          unfold srtB
          cases h9 : findC (O 2) z (sortC f0 g) N with
          | none => exact absurd (by rw [h9]; rfl) c24
          | some j => simp
        refine lv_aload_n hx hb dX2_takeSort_27 rfl (lv_at hl 1 rfl) ?_
        refine wrVv (As := []) (rest := []) ⟨hx, hb, hml, hown, hts⟩ (c_X2_refuse l D T v B O g ln un nx pl f0 f1 f2 _) (cwV 0 hts gX2_takeSort_X2_refuse rfl rfl rfl (by decide +kernel) ⟨Nat.le_of_ble_eq_true rfl, Nat.le_of_ble_eq_true rfl⟩) (Foc.rfl _ _) hK hP hD hS hA 1 rfl rfl rfl hl.1 rfl (Nat.le_of_ble_eq_true rfl) ⟨Nat.zero_le _, Nat.zero_le _⟩ dX2_takeSort_28 (fun H locs hP hD hS => ?_)
        have hP : va_P D vwCl (WIN T v B O (refC g) ln un nx pl f0 f1 f2) H := hP
        have hD : va_D A (WIN T v B O (refC g) ln un nx pl f0 f1 f2) := hD
        refine lv_iconst (v := 0) hx hb dX2_takeSort_31 (by decide) ?_
        refine endI (r := sortV f0 (O 2) z N g) (by unfold sortV; first | (rw [c9, hb9]; rfl) | (rw [c9]; rfl)) ?_
        have hE : (WIN T v B O (refC g) ln un nx pl f0 f1 f2 : va_W) = (WIN T v B O (takT f0 ln (O 2) z N g) ln un nx pl f0 f1 f2) := by unfold takT; first | (rw [tkC_t c9 hb9]; done) | (rw [tkC_w c9]; done) | (rw [tkC_f c9 hb9]; done)
        exact hret _ _ _ _ dX2_takeSort_32 (by rw [← hE]; exact hP) (by rw [← hE]; exact hD) hS
