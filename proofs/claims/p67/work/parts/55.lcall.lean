/-! the law's call: an arm each -/
theorem one_chk {P : String → Prop} {b : Bool} {E0 : String} (h : P E0) : ∀ E, chkB b E0 = some E → P E := by
  intro E hE
  cases b with
  | true => cases hE
  | false => cases hE; exact h
theorem one_or {P : String → Prop} {a k : Option String} (h1 : ∀ E, a = some E → P E) (h2 : ∀ E, k = some E → P E) : ∀ E, orE a k = some E → P E := by
  intro E hE
  cases a with
  | none => exact h2 E hE
  | some E' => exact h1 E hE
set_option maxHeartbeats 4000000 in
set_option maxRecDepth 100000 in
theorem c_call_0 (l : Launch) (hl9 : l.stackTraces = false) (D : va_G) (T : Nat → ClassId) (aK aV : Nat → Nat) (v : Nat → Nat) (B : Nat → Nat → Nat) (O : Nat → Nat → Nat → Int32) (g : CSt) (ln un nx pl : Nat) (f0 f1 f2 : Nat → Int32) (z : Int32) (z1 : Int32) (z2 : Int32) (e0 : Int32) (e1 : Int32) (N : Nat) (K : Nat) (C : Nat) (nt : Nat) (hOI : OI (O 0) N K C nt) (hu : un ≤ 8) (hnx : nx < 8) (sz : Nat) : Met l yL_call wsL_call ({ frames := 10, cells := 4, slots := 24, locals := 215 } : Room) (va_Pc [.ref (v 0), .int (0), .int (z), .int (z1), .int (z2), .int (e0), .int (e1)] (LWP D T aK aV (WIN T v B O g ln un nx pl f0 f1 f2) sz)) (va_Qi (fun r9 (_ : Unit) => r9 = kE (nI N) (orE (chkB (rg z 0 99) "java/lang/IllegalArgumentException") (orE (chkB (rg z1 0 3) "java/lang/IllegalArgumentException") (orE (chkB (rg z2 1 9) "java/lang/IllegalArgumentException") (orE (chkB (decide (N < 24)) "java/lang/IllegalStateException") (chkB ((findC (O 0) z z1 N).isNone) "java/lang/IllegalStateException")))))) (fun _ t => QS D T (va_A (WIN T v B O g ln un nx pl f0 f1 f2) sz) (wC (WIN T v B (va_up (va_up O (3 + nx) (O 0)) 0 (pileAdd (O 0) N z z1 z2 ((O 0) 0 0))) g ln (if un = 8 then 8 else un + 1) ((nx + 1) % 8) pl f0 f1 f2) (WIN T v B O g ln un nx pl f0 f1 f2) (orE (chkB (rg z 0 99) "java/lang/IllegalArgumentException") (orE (chkB (rg z1 0 3) "java/lang/IllegalArgumentException") (orE (chkB (rg z2 1 9) "java/lang/IllegalArgumentException") (orE (chkB (decide (N < 24)) "java/lang/IllegalStateException") (chkB ((findC (O 0) z z1 N).isNone) "java/lang/IllegalStateException")))))) t) (va_A (WIN T v B O g ln un nx pl f0 f1 f2) sz)) 4 24 (va_A (WIN T v B O g ln un nx pl f0 f1 f2) sz) := by
  refine metLi (cc := cL_call) (maxL := 8) (by decide) rfl (Nat.le_of_ble_eq_true rfl) ?_
  intro p e s m args below meth c Q ls A hx hb hml hown hts htab hNC hC hP hK hD hA hS hl hret
  have hown : s.vm.findClass RL = some m.cls := hown
  have hl : lv_has ls 8 [(0, .ref (v 0)), (1, .int (0)), (2, .int (z)), (3, .int (z1)), (4, .int (z2)), (5, .int (e0)), (6, .int (e1))] := hl
  have w151 := hts (Cond.classLink RL 151 "java/util/NoSuchElementException") (List.mem_cons_of_mem _ (gT_of mw_646 rfl))
  have w155 := hts (Cond.classLink RL 155 "java/lang/IllegalStateException") (List.mem_cons_of_mem _ (gT_of mw_1186 rfl))
  have w157 := hts (Cond.classLink RL 157 "java/lang/IllegalArgumentException") (List.mem_cons_of_mem _ (gT_of mw_1187 rfl))
  have w159 := hts (Cond.classLink RL 159 "java/lang/IndexOutOfBoundsException") (List.mem_cons_of_mem _ (gT_of mw_1188 rfl))
  refine lv_iload_n hx hb dL_call_0 rfl (lv_at hl 1 rfl) ?_
  refine lv_tableIn (off := 191) (tgt := 192) hx hb dL_call_1 (by decide) (by decide) (by decide) (by decide) ?_
  refine lv_aload_n hx hb dL_call_192 rfl (lv_at hl 0 rfl) ?_
  refine lv_iload_n hx hb dL_call_193 rfl (lv_at hl 2 rfl) ?_
  refine lv_iload_n hx hb dL_call_194 rfl (lv_at hl 3 rfl) ?_
  refine lv_iload hx hb dL_call_195 (lv_at hl 4 rfl) ?_
  refine wxVi (As := [.int (z), .int (z1), .int (z2)]) (rest := []) ⟨hx, hb, hml, hown, hts⟩ (c_X9_fileComplaint l hl9 D T aK aV v B O g ln un nx pl f0 f1 f2 z z1 z2 N K C nt hOI hu hnx _) (cwV 3 hts (gC gl_X9_fileComplaint) rfl rfl rfl (by decide +kernel) ⟨Nat.le_of_ble_eq_true rfl, Nat.le_of_ble_eq_true rfl⟩) (Foc.rfl _ _) (Foc.rfl _ _) hC hK hP hD hS hA 0 rfl rfl rfl hl.1 rfl (Nat.le_of_ble_eq_true rfl) ⟨Nat.le_of_ble_eq_true rfl, Nat.le_of_ble_eq_true rfl⟩ dL_call_197 (fun E ce q9 H locs hE hP hD hS hce hcv hcl => ?_) (fun H locs hE hP hD hS => ?_)
  ·
    have hEx : E = "java/lang/IllegalStateException" ∨ E = "java/lang/IllegalArgumentException" := (one_or (one_chk (P := fun E => E = "java/lang/IllegalStateException" ∨ E = "java/lang/IllegalArgumentException") (Or.inr (rfl))) (one_or (one_chk (P := fun E => E = "java/lang/IllegalStateException" ∨ E = "java/lang/IllegalArgumentException") (Or.inr (rfl))) (one_or (one_chk (P := fun E => E = "java/lang/IllegalStateException" ∨ E = "java/lang/IllegalArgumentException") (Or.inr (rfl))) (one_or (one_chk (P := fun E => E = "java/lang/IllegalStateException" ∨ E = "java/lang/IllegalArgumentException") (Or.inl rfl)) (one_chk (P := fun E => E = "java/lang/IllegalStateException" ∨ E = "java/lang/IllegalArgumentException") (Or.inl rfl)))))) E hE
    rcases hEx with rfl | hEx
    ·
      refine catL hown htab hNC hC.2.2.2.2 w151 w155 w157 w159 45 (0, 200, 524, 155) rfl rfl (by decide) (by decide +kernel) hce hcv hcl ?_
      refine lv_astore (lv' := [(7, .ref (q9)), (0, .ref (v 0)), (1, .int (0)), (2, .int (z)), (3, .int (z1)), (4, .int (z2)), (5, .int (e0)), (6, .int (e1))]) hx hb dL_call_524 hl (by decide) rfl (fun ls hl => ?_)
      refine lv_bipush (v := -102) hx hb dL_call_526 (by decide) ?_
      refine endI (r := kE (nI N) (orE (chkB (rg z 0 99) "java/lang/IllegalArgumentException") (orE (chkB (rg z1 0 3) "java/lang/IllegalArgumentException") (orE (chkB (rg z2 1 9) "java/lang/IllegalArgumentException") (orE (chkB (decide (N < 24)) "java/lang/IllegalStateException") (chkB ((findC (O 0) z z1 N).isNone) "java/lang/IllegalStateException")))))) (by rw [hE]; rfl) ?_
      exact hret _ _ _ _ _ _ dL_call_528 (by rw [hE]; exact hP) (by rw [hE]; exact hD) hS (by decide) (by decide)
    ·
      subst hEx
      refine catL hown htab hNC hC.2.2.2.2 w151 w155 w157 w159 90 (0, 200, 529, 157) rfl rfl (by decide) (by decide +kernel) hce hcv hcl ?_
      refine lv_astore (lv' := [(7, .ref (q9)), (0, .ref (v 0)), (1, .int (0)), (2, .int (z)), (3, .int (z1)), (4, .int (z2)), (5, .int (e0)), (6, .int (e1))]) hx hb dL_call_529 hl (by decide) rfl (fun ls hl => ?_)
      refine lv_bipush (v := -103) hx hb dL_call_531 (by decide) ?_
      refine endI (r := kE (nI N) (orE (chkB (rg z 0 99) "java/lang/IllegalArgumentException") (orE (chkB (rg z1 0 3) "java/lang/IllegalArgumentException") (orE (chkB (rg z2 1 9) "java/lang/IllegalArgumentException") (orE (chkB (decide (N < 24)) "java/lang/IllegalStateException") (chkB ((findC (O 0) z z1 N).isNone) "java/lang/IllegalStateException")))))) (by rw [hE]; rfl) ?_
      exact hret _ _ _ _ _ _ dL_call_533 (by rw [hE]; exact hP) (by rw [hE]; exact hD) hS (by decide) (by decide)
  ·
    have hE1 : kE (nI N) (orE (chkB (rg z 0 99) "java/lang/IllegalArgumentException") (orE (chkB (rg z1 0 3) "java/lang/IllegalArgumentException") (orE (chkB (rg z2 1 9) "java/lang/IllegalArgumentException") (orE (chkB (decide (N < 24)) "java/lang/IllegalStateException") (chkB ((findC (O 0) z z1 N).isNone) "java/lang/IllegalStateException"))))) = nI N := by rw [hE]; rfl
    refine endI (r := kE (nI N) (orE (chkB (rg z 0 99) "java/lang/IllegalArgumentException") (orE (chkB (rg z1 0 3) "java/lang/IllegalArgumentException") (orE (chkB (rg z2 1 9) "java/lang/IllegalArgumentException") (orE (chkB (decide (N < 24)) "java/lang/IllegalStateException") (chkB ((findC (O 0) z z1 N).isNone) "java/lang/IllegalStateException")))))) hE1.symm ?_
    exact hret _ _ _ _ _ _ dL_call_200 (by rw [hE]; exact hP) (by rw [hE]; exact hD) hS (by decide) (by decide)

set_option maxHeartbeats 4000000 in
set_option maxRecDepth 100000 in
theorem c_call_1 (l : Launch) (hl9 : l.stackTraces = false) (D : va_G) (T : Nat → ClassId) (aK aV : Nat → Nat) (v : Nat → Nat) (B : Nat → Nat → Nat) (O : Nat → Nat → Nat → Int32) (g : CSt) (ln un nx pl : Nat) (f0 f1 f2 : Nat → Int32) (z : Int32) (e0 : Int32) (e1 : Int32) (e2 : Int32) (e3 : Int32) (N : Nat) (K : Nat) (C : Nat) (nt : Nat) (hOI : OI (O 0) N K C nt) (hu : un ≤ 8) (hnx : nx < 8) (sz : Nat) : Met l yL_call wsL_call ({ frames := 10, cells := 4, slots := 24, locals := 215 } : Room) (va_Pc [.ref (v 0), .int (1), .int (z), .int (e0), .int (e1), .int (e2), .int (e3)] (LWP D T aK aV (WIN T v B O g ln un nx pl f0 f1 f2) sz)) (va_Qi (fun r9 (_ : Unit) => r9 = kE ((O 0) 0 0 - (O 0) 7 z.toNatClampNeg) (orE (chkB (inN z N) "java/lang/IndexOutOfBoundsException") (chkB (decide ((O 0) 8 z.toNatClampNeg = 0)) "java/lang/IllegalStateException"))) (fun _ t => QS D T (va_A (WIN T v B O g ln un nx pl f0 f1 f2) sz) (wC (WIN T v B (va_up (va_up O (3 + nx) (O 0)) 0 (pileClose (O 0) z.toNatClampNeg 3 ((O 0) 0 0) (-1))) g ln (if un = 8 then 8 else un + 1) ((nx + 1) % 8) pl f0 f1 f2) (WIN T v B O g ln un nx pl f0 f1 f2) (orE (chkB (inN z N) "java/lang/IndexOutOfBoundsException") (chkB (decide ((O 0) 8 z.toNatClampNeg = 0)) "java/lang/IllegalStateException"))) t) (va_A (WIN T v B O g ln un nx pl f0 f1 f2) sz)) 4 24 (va_A (WIN T v B O g ln un nx pl f0 f1 f2) sz) := by
  refine metLi (cc := cL_call) (maxL := 8) (by decide) rfl (Nat.le_of_ble_eq_true rfl) ?_
  intro p e s m args below meth c Q ls A hx hb hml hown hts htab hNC hC hP hK hD hA hS hl hret
  have hown : s.vm.findClass RL = some m.cls := hown
  have hl : lv_has ls 8 [(0, .ref (v 0)), (1, .int (1)), (2, .int (z)), (3, .int (e0)), (4, .int (e1)), (5, .int (e2)), (6, .int (e3))] := hl
  have w151 := hts (Cond.classLink RL 151 "java/util/NoSuchElementException") (List.mem_cons_of_mem _ (gT_of mw_646 rfl))
  have w155 := hts (Cond.classLink RL 155 "java/lang/IllegalStateException") (List.mem_cons_of_mem _ (gT_of mw_1186 rfl))
  have w157 := hts (Cond.classLink RL 157 "java/lang/IllegalArgumentException") (List.mem_cons_of_mem _ (gT_of mw_1187 rfl))
  have w159 := hts (Cond.classLink RL 159 "java/lang/IndexOutOfBoundsException") (List.mem_cons_of_mem _ (gT_of mw_1188 rfl))
  refine lv_iload_n hx hb dL_call_0 rfl (lv_at hl 1 rfl) ?_
  refine lv_tableIn (off := 200) (tgt := 201) hx hb dL_call_1 (by decide) (by decide) (by decide) (by decide) ?_
  refine lv_aload_n hx hb dL_call_201 rfl (lv_at hl 0 rfl) ?_
  refine lv_iload_n hx hb dL_call_202 rfl (lv_at hl 2 rfl) ?_
  refine wxVi (As := [.int (z)]) (rest := []) ⟨hx, hb, hml, hown, hts⟩ (c_X9_giveUp l hl9 D T aK aV v B O g ln un nx pl f0 f1 f2 z N K C nt hOI hu hnx _) (cwV 1 hts (gC gl_X9_giveUp) rfl rfl rfl (by decide +kernel) ⟨Nat.le_of_ble_eq_true rfl, Nat.le_of_ble_eq_true rfl⟩) (Foc.rfl _ _) (Foc.rfl _ _) hC hK hP hD hS hA 0 rfl rfl rfl hl.1 rfl (Nat.le_of_ble_eq_true rfl) ⟨Nat.le_of_ble_eq_true rfl, Nat.le_of_ble_eq_true rfl⟩ dL_call_203 (fun E ce q9 H locs hE hP hD hS hce hcv hcl => ?_) (fun H locs hE hP hD hS => ?_)
  ·
    have hEx : E = "java/lang/IllegalStateException" ∨ E = "java/lang/IndexOutOfBoundsException" := (one_or (one_chk (P := fun E => E = "java/lang/IllegalStateException" ∨ E = "java/lang/IndexOutOfBoundsException") (Or.inr (rfl))) (one_chk (P := fun E => E = "java/lang/IllegalStateException" ∨ E = "java/lang/IndexOutOfBoundsException") (Or.inl rfl))) E hE
    rcases hEx with rfl | hEx
    ·
      refine catL hown htab hNC hC.2.2.2.2 w151 w155 w157 w159 46 (201, 206, 524, 155) rfl rfl (by decide) (by decide +kernel) hce hcv hcl ?_
      refine lv_astore (lv' := [(7, .ref (q9)), (0, .ref (v 0)), (1, .int (1)), (2, .int (z)), (3, .int (e0)), (4, .int (e1)), (5, .int (e2)), (6, .int (e3))]) hx hb dL_call_524 hl (by decide) rfl (fun ls hl => ?_)
      refine lv_bipush (v := -102) hx hb dL_call_526 (by decide) ?_
      refine endI (r := kE ((O 0) 0 0 - (O 0) 7 z.toNatClampNeg) (orE (chkB (inN z N) "java/lang/IndexOutOfBoundsException") (chkB (decide ((O 0) 8 z.toNatClampNeg = 0)) "java/lang/IllegalStateException"))) (by rw [hE]; rfl) ?_
      exact hret _ _ _ _ _ _ dL_call_528 (by rw [hE]; exact hP) (by rw [hE]; exact hD) hS (by decide) (by decide)
    ·
      subst hEx
      refine catL hown htab hNC hC.2.2.2.2 w151 w155 w157 w159 136 (201, 206, 534, 159) rfl rfl (by decide) (by decide +kernel) hce hcv hcl ?_
      refine lv_astore (lv' := [(7, .ref (q9)), (0, .ref (v 0)), (1, .int (1)), (2, .int (z)), (3, .int (e0)), (4, .int (e1)), (5, .int (e2)), (6, .int (e3))]) hx hb dL_call_534 hl (by decide) rfl (fun ls hl => ?_)
      refine lv_bipush (v := -104) hx hb dL_call_536 (by decide) ?_
      refine endI (r := kE ((O 0) 0 0 - (O 0) 7 z.toNatClampNeg) (orE (chkB (inN z N) "java/lang/IndexOutOfBoundsException") (chkB (decide ((O 0) 8 z.toNatClampNeg = 0)) "java/lang/IllegalStateException"))) (by rw [hE]; rfl) ?_
      exact hret _ _ _ _ _ _ dL_call_538 (by rw [hE]; exact hP) (by rw [hE]; exact hD) hS (by decide) (by decide)
  ·
    have hE1 : kE ((O 0) 0 0 - (O 0) 7 z.toNatClampNeg) (orE (chkB (inN z N) "java/lang/IndexOutOfBoundsException") (chkB (decide ((O 0) 8 z.toNatClampNeg = 0)) "java/lang/IllegalStateException")) = (O 0) 0 0 - (O 0) 7 z.toNatClampNeg := by rw [hE]; rfl
    refine endI (r := kE ((O 0) 0 0 - (O 0) 7 z.toNatClampNeg) (orE (chkB (inN z N) "java/lang/IndexOutOfBoundsException") (chkB (decide ((O 0) 8 z.toNatClampNeg = 0)) "java/lang/IllegalStateException"))) hE1.symm ?_
    exact hret _ _ _ _ _ _ dL_call_206 (by rw [hE]; exact hP) (by rw [hE]; exact hD) hS (by decide) (by decide)

set_option maxHeartbeats 4000000 in
set_option maxRecDepth 100000 in
theorem c_call_2 (l : Launch) (hl9 : l.stackTraces = false) (D : va_G) (T : Nat → ClassId) (aK aV : Nat → Nat) (v : Nat → Nat) (B : Nat → Nat → Nat) (O : Nat → Nat → Nat → Int32) (g : CSt) (ln un nx pl : Nat) (f0 f1 f2 : Nat → Int32) (z : Int32) (z1 : Int32) (e0 : Int32) (e1 : Int32) (e2 : Int32) (N : Nat) (K : Nat) (C : Nat) (nt : Nat) (hOI : OI (O 0) N K C nt) (hu : un ≤ 8) (hnx : nx < 8) (sz : Nat) : Met l yL_call wsL_call ({ frames := 10, cells := 4, slots := 24, locals := 215 } : Room) (va_Pc [.ref (v 0), .int (2), .int (z), .int (z1), .int (e0), .int (e1), .int (e2)] (LWP D T aK aV (WIN T v B O g ln un nx pl f0 f1 f2) sz)) (va_Qi (fun r9 (_ : Unit) => r9 = kE (nI K) (orE (chkB (rg z 1 9) "java/lang/IllegalArgumentException") (orE (chkB (rg z1 0 99) "java/lang/IllegalArgumentException") (chkB (decide (K < 5)) "java/lang/IllegalStateException")))) (fun _ t => QS D T (va_A (WIN T v B O g ln un nx pl f0 f1 f2) sz) (wC (WIN T v B (va_up (va_up O (3 + nx) (O 0)) 0 (staffAdd (O 0) K z z1)) g ln (if un = 8 then 8 else un + 1) ((nx + 1) % 8) pl f0 f1 f2) (WIN T v B O g ln un nx pl f0 f1 f2) (orE (chkB (rg z 1 9) "java/lang/IllegalArgumentException") (orE (chkB (rg z1 0 99) "java/lang/IllegalArgumentException") (chkB (decide (K < 5)) "java/lang/IllegalStateException")))) t) (va_A (WIN T v B O g ln un nx pl f0 f1 f2) sz)) 4 24 (va_A (WIN T v B O g ln un nx pl f0 f1 f2) sz) := by
  refine metLi (cc := cL_call) (maxL := 8) (by decide) rfl (Nat.le_of_ble_eq_true rfl) ?_
  intro p e s m args below meth c Q ls A hx hb hml hown hts htab hNC hC hP hK hD hA hS hl hret
  have hown : s.vm.findClass RL = some m.cls := hown
  have hl : lv_has ls 8 [(0, .ref (v 0)), (1, .int (2)), (2, .int (z)), (3, .int (z1)), (4, .int (e0)), (5, .int (e1)), (6, .int (e2))] := hl
  have w151 := hts (Cond.classLink RL 151 "java/util/NoSuchElementException") (List.mem_cons_of_mem _ (gT_of mw_646 rfl))
  have w155 := hts (Cond.classLink RL 155 "java/lang/IllegalStateException") (List.mem_cons_of_mem _ (gT_of mw_1186 rfl))
  have w157 := hts (Cond.classLink RL 157 "java/lang/IllegalArgumentException") (List.mem_cons_of_mem _ (gT_of mw_1187 rfl))
  have w159 := hts (Cond.classLink RL 159 "java/lang/IndexOutOfBoundsException") (List.mem_cons_of_mem _ (gT_of mw_1188 rfl))
  refine lv_iload_n hx hb dL_call_0 rfl (lv_at hl 1 rfl) ?_
  refine lv_tableIn (off := 206) (tgt := 207) hx hb dL_call_1 (by decide) (by decide) (by decide) (by decide) ?_
  refine lv_aload_n hx hb dL_call_207 rfl (lv_at hl 0 rfl) ?_
  refine lv_iload_n hx hb dL_call_208 rfl (lv_at hl 2 rfl) ?_
  refine lv_iload_n hx hb dL_call_209 rfl (lv_at hl 3 rfl) ?_
  refine wxVi (As := [.int (z), .int (z1)]) (rest := []) ⟨hx, hb, hml, hown, hts⟩ (c_X9_addClerk l hl9 D T aK aV v B O g ln un nx pl f0 f1 f2 z z1 N K C nt hOI hu hnx _) (cwV 2 hts (gC gl_X9_addClerk) rfl rfl rfl (by decide +kernel) ⟨Nat.le_of_ble_eq_true rfl, Nat.le_of_ble_eq_true rfl⟩) (Foc.rfl _ _) (Foc.rfl _ _) hC hK hP hD hS hA 0 rfl rfl rfl hl.1 rfl (Nat.le_of_ble_eq_true rfl) ⟨Nat.le_of_ble_eq_true rfl, Nat.le_of_ble_eq_true rfl⟩ dL_call_210 (fun E ce q9 H locs hE hP hD hS hce hcv hcl => ?_) (fun H locs hE hP hD hS => ?_)
  ·
    have hEx : E = "java/lang/IllegalStateException" ∨ E = "java/lang/IllegalArgumentException" := (one_or (one_chk (P := fun E => E = "java/lang/IllegalStateException" ∨ E = "java/lang/IllegalArgumentException") (Or.inr (rfl))) (one_or (one_chk (P := fun E => E = "java/lang/IllegalStateException" ∨ E = "java/lang/IllegalArgumentException") (Or.inr (rfl))) (one_chk (P := fun E => E = "java/lang/IllegalStateException" ∨ E = "java/lang/IllegalArgumentException") (Or.inl rfl)))) E hE
    rcases hEx with rfl | hEx
    ·
      refine catL hown htab hNC hC.2.2.2.2 w151 w155 w157 w159 47 (207, 213, 524, 155) rfl rfl (by decide) (by decide +kernel) hce hcv hcl ?_
      refine lv_astore (lv' := [(7, .ref (q9)), (0, .ref (v 0)), (1, .int (2)), (2, .int (z)), (3, .int (z1)), (4, .int (e0)), (5, .int (e1)), (6, .int (e2))]) hx hb dL_call_524 hl (by decide) rfl (fun ls hl => ?_)
      refine lv_bipush (v := -102) hx hb dL_call_526 (by decide) ?_
      refine endI (r := kE (nI K) (orE (chkB (rg z 1 9) "java/lang/IllegalArgumentException") (orE (chkB (rg z1 0 99) "java/lang/IllegalArgumentException") (chkB (decide (K < 5)) "java/lang/IllegalStateException")))) (by rw [hE]; rfl) ?_
      exact hret _ _ _ _ _ _ dL_call_528 (by rw [hE]; exact hP) (by rw [hE]; exact hD) hS (by decide) (by decide)
    ·
      subst hEx
      refine catL hown htab hNC hC.2.2.2.2 w151 w155 w157 w159 92 (207, 213, 529, 157) rfl rfl (by decide) (by decide +kernel) hce hcv hcl ?_
      refine lv_astore (lv' := [(7, .ref (q9)), (0, .ref (v 0)), (1, .int (2)), (2, .int (z)), (3, .int (z1)), (4, .int (e0)), (5, .int (e1)), (6, .int (e2))]) hx hb dL_call_529 hl (by decide) rfl (fun ls hl => ?_)
      refine lv_bipush (v := -103) hx hb dL_call_531 (by decide) ?_
      refine endI (r := kE (nI K) (orE (chkB (rg z 1 9) "java/lang/IllegalArgumentException") (orE (chkB (rg z1 0 99) "java/lang/IllegalArgumentException") (chkB (decide (K < 5)) "java/lang/IllegalStateException")))) (by rw [hE]; rfl) ?_
      exact hret _ _ _ _ _ _ dL_call_533 (by rw [hE]; exact hP) (by rw [hE]; exact hD) hS (by decide) (by decide)
  ·
    have hE1 : kE (nI K) (orE (chkB (rg z 1 9) "java/lang/IllegalArgumentException") (orE (chkB (rg z1 0 99) "java/lang/IllegalArgumentException") (chkB (decide (K < 5)) "java/lang/IllegalStateException"))) = nI K := by rw [hE]; rfl
    refine endI (r := kE (nI K) (orE (chkB (rg z 1 9) "java/lang/IllegalArgumentException") (orE (chkB (rg z1 0 99) "java/lang/IllegalArgumentException") (chkB (decide (K < 5)) "java/lang/IllegalStateException")))) hE1.symm ?_
    exact hret _ _ _ _ _ _ dL_call_213 (by rw [hE]; exact hP) (by rw [hE]; exact hD) hS (by decide) (by decide)

set_option maxHeartbeats 4000000 in
set_option maxRecDepth 100000 in
theorem c_call_3 (l : Launch) (hl9 : l.stackTraces = false) (D : va_G) (T : Nat → ClassId) (aK aV : Nat → Nat) (v : Nat → Nat) (B : Nat → Nat → Nat) (O : Nat → Nat → Nat → Int32) (g : CSt) (ln un nx pl : Nat) (f0 f1 f2 : Nat → Int32) (z : Int32) (z1 : Int32) (e0 : Int32) (e1 : Int32) (e2 : Int32) (N : Nat) (K : Nat) (C : Nat) (nt : Nat) (hOI : OI (O 0) N K C nt) (hu : un ≤ 8) (hnx : nx < 8) (sz : Nat) : Met l yL_call wsL_call ({ frames := 10, cells := 4, slots := 24, locals := 215 } : Room) (va_Pc [.ref (v 0), .int (3), .int (z), .int (z1), .int (e0), .int (e1), .int (e2)] (LWP D T aK aV (WIN T v B O g ln un nx pl f0 f1 f2) sz)) (va_Qi (fun r9 (_ : Unit) => r9 = kE (if (O 0) 3 z.toNatClampNeg + z1 < 99 then (O 0) 3 z.toNatClampNeg + z1 else 99) (orE (chkB (inN z K) "java/lang/IndexOutOfBoundsException") (chkB (rg z1 1 99) "java/lang/IllegalArgumentException"))) (fun _ t => QS D T (va_A (WIN T v B O g ln un nx pl f0 f1 f2) sz) (wC (WIN T v B (va_up (va_up O (3 + nx) (O 0)) 0 (va_up (O 0) 3 (va_up ((O 0) 3) z.toNatClampNeg (if (O 0) 3 z.toNatClampNeg + z1 < 99 then (O 0) 3 z.toNatClampNeg + z1 else 99)))) g ln (if un = 8 then 8 else un + 1) ((nx + 1) % 8) pl f0 f1 f2) (WIN T v B O g ln un nx pl f0 f1 f2) (orE (chkB (inN z K) "java/lang/IndexOutOfBoundsException") (chkB (rg z1 1 99) "java/lang/IllegalArgumentException"))) t) (va_A (WIN T v B O g ln un nx pl f0 f1 f2) sz)) 4 24 (va_A (WIN T v B O g ln un nx pl f0 f1 f2) sz) := by
  refine metLi (cc := cL_call) (maxL := 8) (by decide) rfl (Nat.le_of_ble_eq_true rfl) ?_
  intro p e s m args below meth c Q ls A hx hb hml hown hts htab hNC hC hP hK hD hA hS hl hret
  have hown : s.vm.findClass RL = some m.cls := hown
  have hl : lv_has ls 8 [(0, .ref (v 0)), (1, .int (3)), (2, .int (z)), (3, .int (z1)), (4, .int (e0)), (5, .int (e1)), (6, .int (e2))] := hl
  have w151 := hts (Cond.classLink RL 151 "java/util/NoSuchElementException") (List.mem_cons_of_mem _ (gT_of mw_646 rfl))
  have w155 := hts (Cond.classLink RL 155 "java/lang/IllegalStateException") (List.mem_cons_of_mem _ (gT_of mw_1186 rfl))
  have w157 := hts (Cond.classLink RL 157 "java/lang/IllegalArgumentException") (List.mem_cons_of_mem _ (gT_of mw_1187 rfl))
  have w159 := hts (Cond.classLink RL 159 "java/lang/IndexOutOfBoundsException") (List.mem_cons_of_mem _ (gT_of mw_1188 rfl))
  refine lv_iload_n hx hb dL_call_0 rfl (lv_at hl 1 rfl) ?_
  refine lv_tableIn (off := 213) (tgt := 214) hx hb dL_call_1 (by decide) (by decide) (by decide) (by decide) ?_
  refine lv_aload_n hx hb dL_call_214 rfl (lv_at hl 0 rfl) ?_
  refine lv_iload_n hx hb dL_call_215 rfl (lv_at hl 2 rfl) ?_
  refine lv_iload_n hx hb dL_call_216 rfl (lv_at hl 3 rfl) ?_
  refine wxVi (As := [.int (z), .int (z1)]) (rest := []) ⟨hx, hb, hml, hown, hts⟩ (c_X9_refill l hl9 D T aK aV v B O g ln un nx pl f0 f1 f2 z z1 N K C nt hOI hu hnx _) (cwV 2 hts (gC gl_X9_refill) rfl rfl rfl (by decide +kernel) ⟨Nat.le_of_ble_eq_true rfl, Nat.le_of_ble_eq_true rfl⟩) (Foc.rfl _ _) (Foc.rfl _ _) hC hK hP hD hS hA 0 rfl rfl rfl hl.1 rfl (Nat.le_of_ble_eq_true rfl) ⟨Nat.le_of_ble_eq_true rfl, Nat.le_of_ble_eq_true rfl⟩ dL_call_217 (fun E ce q9 H locs hE hP hD hS hce hcv hcl => ?_) (fun H locs hE hP hD hS => ?_)
  ·
    have hEx : E = "java/lang/IllegalArgumentException" ∨ E = "java/lang/IndexOutOfBoundsException" := (one_or (one_chk (P := fun E => E = "java/lang/IllegalArgumentException" ∨ E = "java/lang/IndexOutOfBoundsException") (Or.inr (rfl))) (one_chk (P := fun E => E = "java/lang/IllegalArgumentException" ∨ E = "java/lang/IndexOutOfBoundsException") (Or.inl rfl))) E hE
    rcases hEx with rfl | hEx
    ·
      refine catL hown htab hNC hC.2.2.2.2 w151 w155 w157 w159 93 (214, 220, 529, 157) rfl rfl (by decide) (by decide +kernel) hce hcv hcl ?_
      refine lv_astore (lv' := [(7, .ref (q9)), (0, .ref (v 0)), (1, .int (3)), (2, .int (z)), (3, .int (z1)), (4, .int (e0)), (5, .int (e1)), (6, .int (e2))]) hx hb dL_call_529 hl (by decide) rfl (fun ls hl => ?_)
      refine lv_bipush (v := -103) hx hb dL_call_531 (by decide) ?_
      refine endI (r := kE (if (O 0) 3 z.toNatClampNeg + z1 < 99 then (O 0) 3 z.toNatClampNeg + z1 else 99) (orE (chkB (inN z K) "java/lang/IndexOutOfBoundsException") (chkB (rg z1 1 99) "java/lang/IllegalArgumentException"))) (by rw [hE]; rfl) ?_
      exact hret _ _ _ _ _ _ dL_call_533 (by rw [hE]; exact hP) (by rw [hE]; exact hD) hS (by decide) (by decide)
    ·
      subst hEx
      refine catL hown htab hNC hC.2.2.2.2 w151 w155 w157 w159 138 (214, 220, 534, 159) rfl rfl (by decide) (by decide +kernel) hce hcv hcl ?_
      refine lv_astore (lv' := [(7, .ref (q9)), (0, .ref (v 0)), (1, .int (3)), (2, .int (z)), (3, .int (z1)), (4, .int (e0)), (5, .int (e1)), (6, .int (e2))]) hx hb dL_call_534 hl (by decide) rfl (fun ls hl => ?_)
      refine lv_bipush (v := -104) hx hb dL_call_536 (by decide) ?_
      refine endI (r := kE (if (O 0) 3 z.toNatClampNeg + z1 < 99 then (O 0) 3 z.toNatClampNeg + z1 else 99) (orE (chkB (inN z K) "java/lang/IndexOutOfBoundsException") (chkB (rg z1 1 99) "java/lang/IllegalArgumentException"))) (by rw [hE]; rfl) ?_
      exact hret _ _ _ _ _ _ dL_call_538 (by rw [hE]; exact hP) (by rw [hE]; exact hD) hS (by decide) (by decide)
  ·
    have hE1 : kE (if (O 0) 3 z.toNatClampNeg + z1 < 99 then (O 0) 3 z.toNatClampNeg + z1 else 99) (orE (chkB (inN z K) "java/lang/IndexOutOfBoundsException") (chkB (rg z1 1 99) "java/lang/IllegalArgumentException")) = if (O 0) 3 z.toNatClampNeg + z1 < 99 then (O 0) 3 z.toNatClampNeg + z1 else 99 := by rw [hE]; rfl
    refine endI (r := kE (if (O 0) 3 z.toNatClampNeg + z1 < 99 then (O 0) 3 z.toNatClampNeg + z1 else 99) (orE (chkB (inN z K) "java/lang/IndexOutOfBoundsException") (chkB (rg z1 1 99) "java/lang/IllegalArgumentException"))) hE1.symm ?_
    exact hret _ _ _ _ _ _ dL_call_220 (by rw [hE]; exact hP) (by rw [hE]; exact hD) hS (by decide) (by decide)

set_option maxHeartbeats 4000000 in
set_option maxRecDepth 100000 in
theorem c_call_4 (l : Launch) (hl9 : l.stackTraces = false) (D : va_G) (T : Nat → ClassId) (aK aV : Nat → Nat) (v : Nat → Nat) (B : Nat → Nat → Nat) (O : Nat → Nat → Nat → Int32) (g : CSt) (ln un nx pl : Nat) (f0 f1 f2 : Nat → Int32) (z : Int32) (z1 : Int32) (e0 : Int32) (e1 : Int32) (e2 : Int32) (N : Nat) (K : Nat) (C : Nat) (nt : Nat) (hOI : OI (O 0) N K C nt) (hu : un ≤ 8) (hnx : nx < 8) (sz : Nat) : Met l yL_call wsL_call ({ frames := 10, cells := 4, slots := 24, locals := 215 } : Room) (va_Pc [.ref (v 0), .int (4), .int (z), .int (z1), .int (e0), .int (e1), .int (e2)] (LWP D T aK aV (WIN T v B O g ln un nx pl f0 f1 f2) sz)) (va_Qi (fun r9 (_ : Unit) => r9 = kE ((O 0) 1 z.toNatClampNeg) (orE (chkB (inN z C) "java/lang/IndexOutOfBoundsException") (chkB (rg z1 0 9) "java/lang/IllegalArgumentException"))) (fun _ t => QS D T (va_A (WIN T v B O g ln un nx pl f0 f1 f2) sz) (wC (WIN T v B (va_up (va_up O (3 + nx) (O 0)) 0 (va_up (O 0) 1 (va_up ((O 0) 1) z.toNatClampNeg z1))) g ln (if un = 8 then 8 else un + 1) ((nx + 1) % 8) pl f0 f1 f2) (WIN T v B O g ln un nx pl f0 f1 f2) (orE (chkB (inN z C) "java/lang/IndexOutOfBoundsException") (chkB (rg z1 0 9) "java/lang/IllegalArgumentException"))) t) (va_A (WIN T v B O g ln un nx pl f0 f1 f2) sz)) 4 24 (va_A (WIN T v B O g ln un nx pl f0 f1 f2) sz) := by
  refine metLi (cc := cL_call) (maxL := 8) (by decide) rfl (Nat.le_of_ble_eq_true rfl) ?_
  intro p e s m args below meth c Q ls A hx hb hml hown hts htab hNC hC hP hK hD hA hS hl hret
  have hown : s.vm.findClass RL = some m.cls := hown
  have hl : lv_has ls 8 [(0, .ref (v 0)), (1, .int (4)), (2, .int (z)), (3, .int (z1)), (4, .int (e0)), (5, .int (e1)), (6, .int (e2))] := hl
  have w151 := hts (Cond.classLink RL 151 "java/util/NoSuchElementException") (List.mem_cons_of_mem _ (gT_of mw_646 rfl))
  have w155 := hts (Cond.classLink RL 155 "java/lang/IllegalStateException") (List.mem_cons_of_mem _ (gT_of mw_1186 rfl))
  have w157 := hts (Cond.classLink RL 157 "java/lang/IllegalArgumentException") (List.mem_cons_of_mem _ (gT_of mw_1187 rfl))
  have w159 := hts (Cond.classLink RL 159 "java/lang/IndexOutOfBoundsException") (List.mem_cons_of_mem _ (gT_of mw_1188 rfl))
  refine lv_iload_n hx hb dL_call_0 rfl (lv_at hl 1 rfl) ?_
  refine lv_tableIn (off := 220) (tgt := 221) hx hb dL_call_1 (by decide) (by decide) (by decide) (by decide) ?_
  refine lv_aload_n hx hb dL_call_221 rfl (lv_at hl 0 rfl) ?_
  refine lv_iload_n hx hb dL_call_222 rfl (lv_at hl 2 rfl) ?_
  refine lv_iload_n hx hb dL_call_223 rfl (lv_at hl 3 rfl) ?_
  refine wxVi (As := [.int (z), .int (z1)]) (rest := []) ⟨hx, hb, hml, hown, hts⟩ (c_X9_setCloud l hl9 D T aK aV v B O g ln un nx pl f0 f1 f2 z z1 N K C nt hOI hu hnx _) (cwV 2 hts (gC gl_X9_setCloud) rfl rfl rfl (by decide +kernel) ⟨Nat.le_of_ble_eq_true rfl, Nat.le_of_ble_eq_true rfl⟩) (Foc.rfl _ _) (Foc.rfl _ _) hC hK hP hD hS hA 0 rfl rfl rfl hl.1 rfl (Nat.le_of_ble_eq_true rfl) ⟨Nat.le_of_ble_eq_true rfl, Nat.le_of_ble_eq_true rfl⟩ dL_call_224 (fun E ce q9 H locs hE hP hD hS hce hcv hcl => ?_) (fun H locs hE hP hD hS => ?_)
  ·
    have hEx : E = "java/lang/IllegalArgumentException" ∨ E = "java/lang/IndexOutOfBoundsException" := (one_or (one_chk (P := fun E => E = "java/lang/IllegalArgumentException" ∨ E = "java/lang/IndexOutOfBoundsException") (Or.inr (rfl))) (one_chk (P := fun E => E = "java/lang/IllegalArgumentException" ∨ E = "java/lang/IndexOutOfBoundsException") (Or.inl rfl))) E hE
    rcases hEx with rfl | hEx
    ·
      refine catL hown htab hNC hC.2.2.2.2 w151 w155 w157 w159 94 (221, 227, 529, 157) rfl rfl (by decide) (by decide +kernel) hce hcv hcl ?_
      refine lv_astore (lv' := [(7, .ref (q9)), (0, .ref (v 0)), (1, .int (4)), (2, .int (z)), (3, .int (z1)), (4, .int (e0)), (5, .int (e1)), (6, .int (e2))]) hx hb dL_call_529 hl (by decide) rfl (fun ls hl => ?_)
      refine lv_bipush (v := -103) hx hb dL_call_531 (by decide) ?_
      refine endI (r := kE ((O 0) 1 z.toNatClampNeg) (orE (chkB (inN z C) "java/lang/IndexOutOfBoundsException") (chkB (rg z1 0 9) "java/lang/IllegalArgumentException"))) (by rw [hE]; rfl) ?_
      exact hret _ _ _ _ _ _ dL_call_533 (by rw [hE]; exact hP) (by rw [hE]; exact hD) hS (by decide) (by decide)
    ·
      subst hEx
      refine catL hown htab hNC hC.2.2.2.2 w151 w155 w157 w159 139 (221, 227, 534, 159) rfl rfl (by decide) (by decide +kernel) hce hcv hcl ?_
      refine lv_astore (lv' := [(7, .ref (q9)), (0, .ref (v 0)), (1, .int (4)), (2, .int (z)), (3, .int (z1)), (4, .int (e0)), (5, .int (e1)), (6, .int (e2))]) hx hb dL_call_534 hl (by decide) rfl (fun ls hl => ?_)
      refine lv_bipush (v := -104) hx hb dL_call_536 (by decide) ?_
      refine endI (r := kE ((O 0) 1 z.toNatClampNeg) (orE (chkB (inN z C) "java/lang/IndexOutOfBoundsException") (chkB (rg z1 0 9) "java/lang/IllegalArgumentException"))) (by rw [hE]; rfl) ?_
      exact hret _ _ _ _ _ _ dL_call_538 (by rw [hE]; exact hP) (by rw [hE]; exact hD) hS (by decide) (by decide)
  ·
    have hE1 : kE ((O 0) 1 z.toNatClampNeg) (orE (chkB (inN z C) "java/lang/IndexOutOfBoundsException") (chkB (rg z1 0 9) "java/lang/IllegalArgumentException")) = (O 0) 1 z.toNatClampNeg := by rw [hE]; rfl
    refine endI (r := kE ((O 0) 1 z.toNatClampNeg) (orE (chkB (inN z C) "java/lang/IndexOutOfBoundsException") (chkB (rg z1 0 9) "java/lang/IllegalArgumentException"))) hE1.symm ?_
    exact hret _ _ _ _ _ _ dL_call_227 (by rw [hE]; exact hP) (by rw [hE]; exact hD) hS (by decide) (by decide)

set_option maxHeartbeats 4000000 in
set_option maxRecDepth 100000 in
theorem c_call_5 (l : Launch) (hl9 : l.stackTraces = false) (D : va_G) (T : Nat → ClassId) (aK aV : Nat → Nat) (v : Nat → Nat) (B : Nat → Nat → Nat) (O : Nat → Nat → Nat → Int32) (g : CSt) (ln un nx pl : Nat) (f0 f1 f2 : Nat → Int32) (z : Int32) (e0 : Int32) (e1 : Int32) (e2 : Int32) (e3 : Int32) (N : Nat) (K : Nat) (C : Nat) (nt : Nat) (hOI : OI (O 0) N K C nt) (hu : un ≤ 8) (hnx : nx < 8) (sz : Nat) : Met l yL_call wsL_call ({ frames := 10, cells := 4, slots := 24, locals := 215 } : Room) (va_Pc [.ref (v 0), .int (5), .int (z), .int (e0), .int (e1), .int (e2), .int (e3)] (LWP D T aK aV (WIN T v B O g ln un nx pl f0 f1 f2) sz)) (va_Qi (fun r9 (_ : Unit) => r9 = kE ((O 0) 0 1) (chkB (rg z 1 14) "java/lang/IllegalArgumentException")) (fun _ t => QS D T (va_A (WIN T v B O g ln un nx pl f0 f1 f2) sz) (wC (WIN T v B (va_up (va_up O (3 + nx) (O 0)) 0 (dS (O 0) 1 z)) g ln (if un = 8 then 8 else un + 1) ((nx + 1) % 8) pl f0 f1 f2) (WIN T v B O g ln un nx pl f0 f1 f2) (chkB (rg z 1 14) "java/lang/IllegalArgumentException")) t) (va_A (WIN T v B O g ln un nx pl f0 f1 f2) sz)) 4 24 (va_A (WIN T v B O g ln un nx pl f0 f1 f2) sz) := by
  refine metLi (cc := cL_call) (maxL := 8) (by decide) rfl (Nat.le_of_ble_eq_true rfl) ?_
  intro p e s m args below meth c Q ls A hx hb hml hown hts htab hNC hC hP hK hD hA hS hl hret
  have hown : s.vm.findClass RL = some m.cls := hown
  have hl : lv_has ls 8 [(0, .ref (v 0)), (1, .int (5)), (2, .int (z)), (3, .int (e0)), (4, .int (e1)), (5, .int (e2)), (6, .int (e3))] := hl
  have w151 := hts (Cond.classLink RL 151 "java/util/NoSuchElementException") (List.mem_cons_of_mem _ (gT_of mw_646 rfl))
  have w155 := hts (Cond.classLink RL 155 "java/lang/IllegalStateException") (List.mem_cons_of_mem _ (gT_of mw_1186 rfl))
  have w157 := hts (Cond.classLink RL 157 "java/lang/IllegalArgumentException") (List.mem_cons_of_mem _ (gT_of mw_1187 rfl))
  have w159 := hts (Cond.classLink RL 159 "java/lang/IndexOutOfBoundsException") (List.mem_cons_of_mem _ (gT_of mw_1188 rfl))
  refine lv_iload_n hx hb dL_call_0 rfl (lv_at hl 1 rfl) ?_
  refine lv_tableIn (off := 227) (tgt := 228) hx hb dL_call_1 (by decide) (by decide) (by decide) (by decide) ?_
  refine lv_aload_n hx hb dL_call_228 rfl (lv_at hl 0 rfl) ?_
  refine lv_iload_n hx hb dL_call_229 rfl (lv_at hl 2 rfl) ?_
  refine wxVi (As := [.int (z)]) (rest := []) ⟨hx, hb, hml, hown, hts⟩ (c_X9_setGlareLimit l hl9 D T aK aV v B O g ln un nx pl f0 f1 f2 z N K C nt hOI hu hnx _) (cwV 1 hts (gC gl_X9_setGlareLimit) rfl rfl rfl (by decide +kernel) ⟨Nat.le_of_ble_eq_true rfl, Nat.le_of_ble_eq_true rfl⟩) (Foc.rfl _ _) (Foc.rfl _ _) hC hK hP hD hS hA 0 rfl rfl rfl hl.1 rfl (Nat.le_of_ble_eq_true rfl) ⟨Nat.le_of_ble_eq_true rfl, Nat.le_of_ble_eq_true rfl⟩ dL_call_230 (fun E ce q9 H locs hE hP hD hS hce hcv hcl => ?_) (fun H locs hE hP hD hS => ?_)
  ·
    have hEx : E = "java/lang/IllegalArgumentException" := (one_chk (P := fun E => E = "java/lang/IllegalArgumentException") (rfl)) E hE
    subst hEx
    refine catL hown htab hNC hC.2.2.2.2 w151 w155 w157 w159 95 (228, 233, 529, 157) rfl rfl (by decide) (by decide +kernel) hce hcv hcl ?_
    refine lv_astore (lv' := [(7, .ref (q9)), (0, .ref (v 0)), (1, .int (5)), (2, .int (z)), (3, .int (e0)), (4, .int (e1)), (5, .int (e2)), (6, .int (e3))]) hx hb dL_call_529 hl (by decide) rfl (fun ls hl => ?_)
    refine lv_bipush (v := -103) hx hb dL_call_531 (by decide) ?_
    refine endI (r := kE ((O 0) 0 1) (chkB (rg z 1 14) "java/lang/IllegalArgumentException")) (by rw [hE]; rfl) ?_
    exact hret _ _ _ _ _ _ dL_call_533 (by rw [hE]; exact hP) (by rw [hE]; exact hD) hS (by decide) (by decide)
  ·
    have hE1 : kE ((O 0) 0 1) (chkB (rg z 1 14) "java/lang/IllegalArgumentException") = (O 0) 0 1 := by rw [hE]; rfl
    refine endI (r := kE ((O 0) 0 1) (chkB (rg z 1 14) "java/lang/IllegalArgumentException")) hE1.symm ?_
    exact hret _ _ _ _ _ _ dL_call_233 (by rw [hE]; exact hP) (by rw [hE]; exact hD) hS (by decide) (by decide)

set_option maxHeartbeats 4000000 in
set_option maxRecDepth 100000 in
theorem c_call_6 (l : Launch) (hl9 : l.stackTraces = false) (D : va_G) (T : Nat → ClassId) (aK aV : Nat → Nat) (v : Nat → Nat) (B : Nat → Nat → Nat) (O : Nat → Nat → Nat → Int32) (g : CSt) (ln un nx pl : Nat) (f0 f1 f2 : Nat → Int32) (z : Int32) (e0 : Int32) (e1 : Int32) (e2 : Int32) (e3 : Int32) (N : Nat) (K : Nat) (C : Nat) (nt : Nat) (hOI : OI (O 0) N K C nt) (hu : un ≤ 8) (hnx : nx < 8) (sz : Nat) : Met l yL_call wsL_call ({ frames := 10, cells := 4, slots := 24, locals := 215 } : Room) (va_Pc [.ref (v 0), .int (6), .int (z), .int (e0), .int (e1), .int (e2), .int (e3)] (LWP D T aK aV (WIN T v B O g ln un nx pl f0 f1 f2) sz)) (va_Qi (fun r9 (_ : Unit) => r9 = kE ((O 0) 0 2) (chkB (rg z 0 13) "java/lang/IllegalArgumentException")) (fun _ t => QS D T (va_A (WIN T v B O g ln un nx pl f0 f1 f2) sz) (wC (WIN T v B (va_up (va_up O (3 + nx) (O 0)) 0 (dS (O 0) 2 z)) g ln (if un = 8 then 8 else un + 1) ((nx + 1) % 8) pl f0 f1 f2) (WIN T v B O g ln un nx pl f0 f1 f2) (chkB (rg z 0 13) "java/lang/IllegalArgumentException")) t) (va_A (WIN T v B O g ln un nx pl f0 f1 f2) sz)) 4 24 (va_A (WIN T v B O g ln un nx pl f0 f1 f2) sz) := by
  refine metLi (cc := cL_call) (maxL := 8) (by decide) rfl (Nat.le_of_ble_eq_true rfl) ?_
  intro p e s m args below meth c Q ls A hx hb hml hown hts htab hNC hC hP hK hD hA hS hl hret
  have hown : s.vm.findClass RL = some m.cls := hown
  have hl : lv_has ls 8 [(0, .ref (v 0)), (1, .int (6)), (2, .int (z)), (3, .int (e0)), (4, .int (e1)), (5, .int (e2)), (6, .int (e3))] := hl
  have w151 := hts (Cond.classLink RL 151 "java/util/NoSuchElementException") (List.mem_cons_of_mem _ (gT_of mw_646 rfl))
  have w155 := hts (Cond.classLink RL 155 "java/lang/IllegalStateException") (List.mem_cons_of_mem _ (gT_of mw_1186 rfl))
  have w157 := hts (Cond.classLink RL 157 "java/lang/IllegalArgumentException") (List.mem_cons_of_mem _ (gT_of mw_1187 rfl))
  have w159 := hts (Cond.classLink RL 159 "java/lang/IndexOutOfBoundsException") (List.mem_cons_of_mem _ (gT_of mw_1188 rfl))
  refine lv_iload_n hx hb dL_call_0 rfl (lv_at hl 1 rfl) ?_
  refine lv_tableIn (off := 233) (tgt := 234) hx hb dL_call_1 (by decide) (by decide) (by decide) (by decide) ?_
  refine lv_aload_n hx hb dL_call_234 rfl (lv_at hl 0 rfl) ?_
  refine lv_iload_n hx hb dL_call_235 rfl (lv_at hl 2 rfl) ?_
  refine wxVi (As := [.int (z)]) (rest := []) ⟨hx, hb, hml, hown, hts⟩ (c_X9_setGloomLimit l hl9 D T aK aV v B O g ln un nx pl f0 f1 f2 z N K C nt hOI hu hnx _) (cwV 1 hts (gC gl_X9_setGloomLimit) rfl rfl rfl (by decide +kernel) ⟨Nat.le_of_ble_eq_true rfl, Nat.le_of_ble_eq_true rfl⟩) (Foc.rfl _ _) (Foc.rfl _ _) hC hK hP hD hS hA 0 rfl rfl rfl hl.1 rfl (Nat.le_of_ble_eq_true rfl) ⟨Nat.le_of_ble_eq_true rfl, Nat.le_of_ble_eq_true rfl⟩ dL_call_236 (fun E ce q9 H locs hE hP hD hS hce hcv hcl => ?_) (fun H locs hE hP hD hS => ?_)
  ·
    have hEx : E = "java/lang/IllegalArgumentException" := (one_chk (P := fun E => E = "java/lang/IllegalArgumentException") (rfl)) E hE
    subst hEx
    refine catL hown htab hNC hC.2.2.2.2 w151 w155 w157 w159 96 (234, 239, 529, 157) rfl rfl (by decide) (by decide +kernel) hce hcv hcl ?_
    refine lv_astore (lv' := [(7, .ref (q9)), (0, .ref (v 0)), (1, .int (6)), (2, .int (z)), (3, .int (e0)), (4, .int (e1)), (5, .int (e2)), (6, .int (e3))]) hx hb dL_call_529 hl (by decide) rfl (fun ls hl => ?_)
    refine lv_bipush (v := -103) hx hb dL_call_531 (by decide) ?_
    refine endI (r := kE ((O 0) 0 2) (chkB (rg z 0 13) "java/lang/IllegalArgumentException")) (by rw [hE]; rfl) ?_
    exact hret _ _ _ _ _ _ dL_call_533 (by rw [hE]; exact hP) (by rw [hE]; exact hD) hS (by decide) (by decide)
  ·
    have hE1 : kE ((O 0) 0 2) (chkB (rg z 0 13) "java/lang/IllegalArgumentException") = (O 0) 0 2 := by rw [hE]; rfl
    refine endI (r := kE ((O 0) 0 2) (chkB (rg z 0 13) "java/lang/IllegalArgumentException")) hE1.symm ?_
    exact hret _ _ _ _ _ _ dL_call_239 (by rw [hE]; exact hP) (by rw [hE]; exact hD) hS (by decide) (by decide)

set_option maxHeartbeats 4000000 in
set_option maxRecDepth 100000 in
theorem c_call_7 (l : Launch) (hl9 : l.stackTraces = false) (D : va_G) (T : Nat → ClassId) (aK aV : Nat → Nat) (v : Nat → Nat) (B : Nat → Nat → Nat) (O : Nat → Nat → Nat → Int32) (g : CSt) (ln un nx pl : Nat) (f0 f1 f2 : Nat → Int32) (z : Int32) (e0 : Int32) (e1 : Int32) (e2 : Int32) (e3 : Int32) (N : Nat) (K : Nat) (C : Nat) (nt : Nat) (hOI : OI (O 0) N K C nt) (hu : un ≤ 8) (hnx : nx < 8) (sz : Nat) : Met l yL_call wsL_call ({ frames := 10, cells := 4, slots := 24, locals := 215 } : Room) (va_Pc [.ref (v 0), .int (7), .int (z), .int (e0), .int (e1), .int (e2), .int (e3)] (LWP D T aK aV (WIN T v B O g ln un nx pl f0 f1 f2) sz)) (va_Qi (fun r9 (_ : Unit) => r9 = kE ((O 0) 0 3) (chkB (rg z 0 7) "java/lang/IllegalArgumentException")) (fun _ t => QS D T (va_A (WIN T v B O g ln un nx pl f0 f1 f2) sz) (wC (WIN T v B (va_up (va_up O (3 + nx) (O 0)) 0 (dS (O 0) 3 z)) g ln (if un = 8 then 8 else un + 1) ((nx + 1) % 8) pl f0 f1 f2) (WIN T v B O g ln un nx pl f0 f1 f2) (chkB (rg z 0 7) "java/lang/IllegalArgumentException")) t) (va_A (WIN T v B O g ln un nx pl f0 f1 f2) sz)) 4 24 (va_A (WIN T v B O g ln un nx pl f0 f1 f2) sz) := by
  refine metLi (cc := cL_call) (maxL := 8) (by decide) rfl (Nat.le_of_ble_eq_true rfl) ?_
  intro p e s m args below meth c Q ls A hx hb hml hown hts htab hNC hC hP hK hD hA hS hl hret
  have hown : s.vm.findClass RL = some m.cls := hown
  have hl : lv_has ls 8 [(0, .ref (v 0)), (1, .int (7)), (2, .int (z)), (3, .int (e0)), (4, .int (e1)), (5, .int (e2)), (6, .int (e3))] := hl
  have w151 := hts (Cond.classLink RL 151 "java/util/NoSuchElementException") (List.mem_cons_of_mem _ (gT_of mw_646 rfl))
  have w155 := hts (Cond.classLink RL 155 "java/lang/IllegalStateException") (List.mem_cons_of_mem _ (gT_of mw_1186 rfl))
  have w157 := hts (Cond.classLink RL 157 "java/lang/IllegalArgumentException") (List.mem_cons_of_mem _ (gT_of mw_1187 rfl))
  have w159 := hts (Cond.classLink RL 159 "java/lang/IndexOutOfBoundsException") (List.mem_cons_of_mem _ (gT_of mw_1188 rfl))
  refine lv_iload_n hx hb dL_call_0 rfl (lv_at hl 1 rfl) ?_
  refine lv_tableIn (off := 239) (tgt := 240) hx hb dL_call_1 (by decide) (by decide) (by decide) (by decide) ?_
  refine lv_aload_n hx hb dL_call_240 rfl (lv_at hl 0 rfl) ?_
  refine lv_iload_n hx hb dL_call_241 rfl (lv_at hl 2 rfl) ?_
  refine wxVi (As := [.int (z)]) (rest := []) ⟨hx, hb, hml, hown, hts⟩ (c_X9_setTideLimit l hl9 D T aK aV v B O g ln un nx pl f0 f1 f2 z N K C nt hOI hu hnx _) (cwV 1 hts (gC gl_X9_setTideLimit) rfl rfl rfl (by decide +kernel) ⟨Nat.le_of_ble_eq_true rfl, Nat.le_of_ble_eq_true rfl⟩) (Foc.rfl _ _) (Foc.rfl _ _) hC hK hP hD hS hA 0 rfl rfl rfl hl.1 rfl (Nat.le_of_ble_eq_true rfl) ⟨Nat.le_of_ble_eq_true rfl, Nat.le_of_ble_eq_true rfl⟩ dL_call_242 (fun E ce q9 H locs hE hP hD hS hce hcv hcl => ?_) (fun H locs hE hP hD hS => ?_)
  ·
    have hEx : E = "java/lang/IllegalArgumentException" := (one_chk (P := fun E => E = "java/lang/IllegalArgumentException") (rfl)) E hE
    subst hEx
    refine catL hown htab hNC hC.2.2.2.2 w151 w155 w157 w159 97 (240, 245, 529, 157) rfl rfl (by decide) (by decide +kernel) hce hcv hcl ?_
    refine lv_astore (lv' := [(7, .ref (q9)), (0, .ref (v 0)), (1, .int (7)), (2, .int (z)), (3, .int (e0)), (4, .int (e1)), (5, .int (e2)), (6, .int (e3))]) hx hb dL_call_529 hl (by decide) rfl (fun ls hl => ?_)
    refine lv_bipush (v := -103) hx hb dL_call_531 (by decide) ?_
    refine endI (r := kE ((O 0) 0 3) (chkB (rg z 0 7) "java/lang/IllegalArgumentException")) (by rw [hE]; rfl) ?_
    exact hret _ _ _ _ _ _ dL_call_533 (by rw [hE]; exact hP) (by rw [hE]; exact hD) hS (by decide) (by decide)
  ·
    have hE1 : kE ((O 0) 0 3) (chkB (rg z 0 7) "java/lang/IllegalArgumentException") = (O 0) 0 3 := by rw [hE]; rfl
    refine endI (r := kE ((O 0) 0 3) (chkB (rg z 0 7) "java/lang/IllegalArgumentException")) hE1.symm ?_
    exact hret _ _ _ _ _ _ dL_call_245 (by rw [hE]; exact hP) (by rw [hE]; exact hD) hS (by decide) (by decide)

set_option maxHeartbeats 4000000 in
set_option maxRecDepth 100000 in
theorem c_call_8 (l : Launch) (hl9 : l.stackTraces = false) (D : va_G) (T : Nat → ClassId) (aK aV : Nat → Nat) (v : Nat → Nat) (B : Nat → Nat → Nat) (O : Nat → Nat → Nat → Int32) (g : CSt) (ln un nx pl : Nat) (f0 f1 f2 : Nat → Int32) (z : Int32) (e0 : Int32) (e1 : Int32) (e2 : Int32) (e3 : Int32) (N : Nat) (K : Nat) (C : Nat) (nt : Nat) (hOI : OI (O 0) N K C nt) (hu : un ≤ 8) (hnx : nx < 8) (sz : Nat) : Met l yL_call wsL_call ({ frames := 10, cells := 4, slots := 24, locals := 215 } : Room) (va_Pc [.ref (v 0), .int (8), .int (z), .int (e0), .int (e1), .int (e2), .int (e3)] (LWP D T aK aV (WIN T v B O g ln un nx pl f0 f1 f2) sz)) (va_Qi (fun r9 (_ : Unit) => r9 = kE ((iter (endsC N K C nt) z.toNatClampNeg 0 (0, O 0)).1) (orE (chkB (rg z 1 60) "java/lang/IllegalArgumentException") (chkB (decide (nt + z.toNatClampNeg ≤ 999)) "java/lang/IllegalStateException"))) (fun _ t => QS D T (va_A (WIN T v B O g ln un nx pl f0 f1 f2) sz) (wC (WIN T v B (va_up (va_up O (3 + nx) (O 0)) 0 ((iter (endsC N K C nt) z.toNatClampNeg 0 (0, O 0)).2)) g ln (if un = 8 then 8 else un + 1) ((nx + 1) % 8) pl f0 f1 f2) (WIN T v B O g ln un nx pl f0 f1 f2) (orE (chkB (rg z 1 60) "java/lang/IllegalArgumentException") (chkB (decide (nt + z.toNatClampNeg ≤ 999)) "java/lang/IllegalStateException"))) t) (va_A (WIN T v B O g ln un nx pl f0 f1 f2) sz)) 4 24 (va_A (WIN T v B O g ln un nx pl f0 f1 f2) sz) := by
  refine metLi (cc := cL_call) (maxL := 8) (by decide) rfl (Nat.le_of_ble_eq_true rfl) ?_
  intro p e s m args below meth c Q ls A hx hb hml hown hts htab hNC hC hP hK hD hA hS hl hret
  have hown : s.vm.findClass RL = some m.cls := hown
  have hl : lv_has ls 8 [(0, .ref (v 0)), (1, .int (8)), (2, .int (z)), (3, .int (e0)), (4, .int (e1)), (5, .int (e2)), (6, .int (e3))] := hl
  have w151 := hts (Cond.classLink RL 151 "java/util/NoSuchElementException") (List.mem_cons_of_mem _ (gT_of mw_646 rfl))
  have w155 := hts (Cond.classLink RL 155 "java/lang/IllegalStateException") (List.mem_cons_of_mem _ (gT_of mw_1186 rfl))
  have w157 := hts (Cond.classLink RL 157 "java/lang/IllegalArgumentException") (List.mem_cons_of_mem _ (gT_of mw_1187 rfl))
  have w159 := hts (Cond.classLink RL 159 "java/lang/IndexOutOfBoundsException") (List.mem_cons_of_mem _ (gT_of mw_1188 rfl))
  refine lv_iload_n hx hb dL_call_0 rfl (lv_at hl 1 rfl) ?_
  refine lv_tableIn (off := 245) (tgt := 246) hx hb dL_call_1 (by decide) (by decide) (by decide) (by decide) ?_
  refine lv_aload_n hx hb dL_call_246 rfl (lv_at hl 0 rfl) ?_
  refine lv_iload_n hx hb dL_call_247 rfl (lv_at hl 2 rfl) ?_
  refine wxVi (As := [.int (z)]) (rest := []) ⟨hx, hb, hml, hown, hts⟩ (c_X9_endNights l hl9 D T aK aV v B O g ln un nx pl f0 f1 f2 z N K C nt hOI hu hnx _) (cwV 1 hts (gC gl_X9_endNights) rfl rfl rfl (by decide +kernel) ⟨Nat.le_of_ble_eq_true rfl, Nat.le_of_ble_eq_true rfl⟩) (Foc.rfl _ _) (Foc.rfl _ _) hC hK hP hD hS hA 0 rfl rfl rfl hl.1 rfl (Nat.le_of_ble_eq_true rfl) ⟨Nat.le_of_ble_eq_true rfl, Nat.le_of_ble_eq_true rfl⟩ dL_call_248 (fun E ce q9 H locs hE hP hD hS hce hcv hcl => ?_) (fun H locs hE hP hD hS => ?_)
  ·
    have hEx : E = "java/lang/IllegalStateException" ∨ E = "java/lang/IllegalArgumentException" := (one_or (one_chk (P := fun E => E = "java/lang/IllegalStateException" ∨ E = "java/lang/IllegalArgumentException") (Or.inr (rfl))) (one_chk (P := fun E => E = "java/lang/IllegalStateException" ∨ E = "java/lang/IllegalArgumentException") (Or.inl rfl))) E hE
    rcases hEx with rfl | hEx
    ·
      refine catL hown htab hNC hC.2.2.2.2 w151 w155 w157 w159 53 (246, 251, 524, 155) rfl rfl (by decide) (by decide +kernel) hce hcv hcl ?_
      refine lv_astore (lv' := [(7, .ref (q9)), (0, .ref (v 0)), (1, .int (8)), (2, .int (z)), (3, .int (e0)), (4, .int (e1)), (5, .int (e2)), (6, .int (e3))]) hx hb dL_call_524 hl (by decide) rfl (fun ls hl => ?_)
      refine lv_bipush (v := -102) hx hb dL_call_526 (by decide) ?_
      refine endI (r := kE ((iter (endsC N K C nt) z.toNatClampNeg 0 (0, O 0)).1) (orE (chkB (rg z 1 60) "java/lang/IllegalArgumentException") (chkB (decide (nt + z.toNatClampNeg ≤ 999)) "java/lang/IllegalStateException"))) (by rw [hE]; rfl) ?_
      exact hret _ _ _ _ _ _ dL_call_528 (by rw [hE]; exact hP) (by rw [hE]; exact hD) hS (by decide) (by decide)
    ·
      subst hEx
      refine catL hown htab hNC hC.2.2.2.2 w151 w155 w157 w159 98 (246, 251, 529, 157) rfl rfl (by decide) (by decide +kernel) hce hcv hcl ?_
      refine lv_astore (lv' := [(7, .ref (q9)), (0, .ref (v 0)), (1, .int (8)), (2, .int (z)), (3, .int (e0)), (4, .int (e1)), (5, .int (e2)), (6, .int (e3))]) hx hb dL_call_529 hl (by decide) rfl (fun ls hl => ?_)
      refine lv_bipush (v := -103) hx hb dL_call_531 (by decide) ?_
      refine endI (r := kE ((iter (endsC N K C nt) z.toNatClampNeg 0 (0, O 0)).1) (orE (chkB (rg z 1 60) "java/lang/IllegalArgumentException") (chkB (decide (nt + z.toNatClampNeg ≤ 999)) "java/lang/IllegalStateException"))) (by rw [hE]; rfl) ?_
      exact hret _ _ _ _ _ _ dL_call_533 (by rw [hE]; exact hP) (by rw [hE]; exact hD) hS (by decide) (by decide)
  ·
    have hE1 : kE ((iter (endsC N K C nt) z.toNatClampNeg 0 (0, O 0)).1) (orE (chkB (rg z 1 60) "java/lang/IllegalArgumentException") (chkB (decide (nt + z.toNatClampNeg ≤ 999)) "java/lang/IllegalStateException")) = (iter (endsC N K C nt) z.toNatClampNeg 0 (0, O 0)).1 := by rw [hE]; rfl
    refine endI (r := kE ((iter (endsC N K C nt) z.toNatClampNeg 0 (0, O 0)).1) (orE (chkB (rg z 1 60) "java/lang/IllegalArgumentException") (chkB (decide (nt + z.toNatClampNeg ≤ 999)) "java/lang/IllegalStateException"))) hE1.symm ?_
    exact hret _ _ _ _ _ _ dL_call_251 (by rw [hE]; exact hP) (by rw [hE]; exact hD) hS (by decide) (by decide)

set_option maxHeartbeats 4000000 in
set_option maxRecDepth 100000 in
theorem c_call_9 (l : Launch) (hl9 : l.stackTraces = false) (D : va_G) (T : Nat → ClassId) (aK aV : Nat → Nat) (v : Nat → Nat) (B : Nat → Nat → Nat) (O : Nat → Nat → Nat → Int32) (g : CSt) (ln un nx pl : Nat) (f0 f1 f2 : Nat → Int32) (e0 : Int32) (e1 : Int32) (e2 : Int32) (e3 : Int32) (e4 : Int32)  (hu : un ≤ 8) (hnx : nx < 8) (sz : Nat) : Met l yL_call wsL_call ({ frames := 10, cells := 4, slots := 24, locals := 215 } : Room) (va_Pc [.ref (v 0), .int (9), .int (e0), .int (e1), .int (e2), .int (e3), .int (e4)] (LWP D T aK aV (WIN T v B O g ln un nx pl f0 f1 f2) sz)) (va_Qi (fun r9 (_ : Unit) => r9 = kE (nI (un - 1)) (chkB (!decide (un = 0)) "java/lang/IllegalStateException")) (fun _ t => QS D T (va_A (WIN T v B O g ln un nx pl f0 f1 f2) sz) (wC (WIN T v B (va_up O 0 (O (3 + (nx + 7) % 8))) g ln (un - 1) ((nx + 7) % 8) pl f0 f1 f2) (WIN T v B O g ln un nx pl f0 f1 f2) (chkB (!decide (un = 0)) "java/lang/IllegalStateException")) t) (va_A (WIN T v B O g ln un nx pl f0 f1 f2) sz)) 4 24 (va_A (WIN T v B O g ln un nx pl f0 f1 f2) sz) := by
  refine metLi (cc := cL_call) (maxL := 8) (by decide) rfl (Nat.le_of_ble_eq_true rfl) ?_
  intro p e s m args below meth c Q ls A hx hb hml hown hts htab hNC hC hP hK hD hA hS hl hret
  have hown : s.vm.findClass RL = some m.cls := hown
  have hl : lv_has ls 8 [(0, .ref (v 0)), (1, .int (9)), (2, .int (e0)), (3, .int (e1)), (4, .int (e2)), (5, .int (e3)), (6, .int (e4))] := hl
  have w151 := hts (Cond.classLink RL 151 "java/util/NoSuchElementException") (List.mem_cons_of_mem _ (gT_of mw_646 rfl))
  have w155 := hts (Cond.classLink RL 155 "java/lang/IllegalStateException") (List.mem_cons_of_mem _ (gT_of mw_1186 rfl))
  have w157 := hts (Cond.classLink RL 157 "java/lang/IllegalArgumentException") (List.mem_cons_of_mem _ (gT_of mw_1187 rfl))
  have w159 := hts (Cond.classLink RL 159 "java/lang/IndexOutOfBoundsException") (List.mem_cons_of_mem _ (gT_of mw_1188 rfl))
  refine lv_iload_n hx hb dL_call_0 rfl (lv_at hl 1 rfl) ?_
  refine lv_tableIn (off := 251) (tgt := 252) hx hb dL_call_1 (by decide) (by decide) (by decide) (by decide) ?_
  refine lv_aload_n hx hb dL_call_252 rfl (lv_at hl 0 rfl) ?_
  refine wxVi (As := []) (rest := []) ⟨hx, hb, hml, hown, hts⟩ (c_X9_undo l hl9 D T aK aV v B O g ln un nx pl f0 f1 f2 hu hnx _) (cwV 0 hts (gC gl_X9_undo) rfl rfl rfl (by decide +kernel) ⟨Nat.le_of_ble_eq_true rfl, Nat.le_of_ble_eq_true rfl⟩) (Foc.rfl _ _) (Foc.rfl _ _) hC hK hP hD hS hA 0 rfl rfl rfl hl.1 rfl (Nat.le_of_ble_eq_true rfl) ⟨Nat.le_of_ble_eq_true rfl, Nat.le_of_ble_eq_true rfl⟩ dL_call_253 (fun E ce q9 H locs hE hP hD hS hce hcv hcl => ?_) (fun H locs hE hP hD hS => ?_)
  ·
    have hEx : E = "java/lang/IllegalStateException" := (one_chk (P := fun E => E = "java/lang/IllegalStateException") (rfl)) E hE
    subst hEx
    refine catL hown htab hNC hC.2.2.2.2 w151 w155 w157 w159 54 (252, 256, 524, 155) rfl rfl (by decide) (by decide +kernel) hce hcv hcl ?_
    refine lv_astore (lv' := [(7, .ref (q9)), (0, .ref (v 0)), (1, .int (9)), (2, .int (e0)), (3, .int (e1)), (4, .int (e2)), (5, .int (e3)), (6, .int (e4))]) hx hb dL_call_524 hl (by decide) rfl (fun ls hl => ?_)
    refine lv_bipush (v := -102) hx hb dL_call_526 (by decide) ?_
    refine endI (r := kE (nI (un - 1)) (chkB (!decide (un = 0)) "java/lang/IllegalStateException")) (by rw [hE]; rfl) ?_
    exact hret _ _ _ _ _ _ dL_call_528 (by rw [hE]; exact hP) (by rw [hE]; exact hD) hS (by decide) (by decide)
  ·
    have hE1 : kE (nI (un - 1)) (chkB (!decide (un = 0)) "java/lang/IllegalStateException") = nI (un - 1) := by rw [hE]; rfl
    refine endI (r := kE (nI (un - 1)) (chkB (!decide (un = 0)) "java/lang/IllegalStateException")) hE1.symm ?_
    exact hret _ _ _ _ _ _ dL_call_256 (by rw [hE]; exact hP) (by rw [hE]; exact hD) hS (by decide) (by decide)

set_option maxHeartbeats 4000000 in
set_option maxRecDepth 100000 in
theorem c_call_10 (l : Launch) (hl9 : l.stackTraces = false) (D : va_G) (T : Nat → ClassId) (aK aV : Nat → Nat) (v : Nat → Nat) (B : Nat → Nat → Nat) (O : Nat → Nat → Nat → Int32) (g : CSt) (ln un nx pl : Nat) (f0 f1 f2 : Nat → Int32) (z : Int32) (e0 : Int32) (e1 : Int32) (e2 : Int32) (e3 : Int32)  (sz : Nat) : Met l yL_call wsL_call ({ frames := 10, cells := 4, slots := 24, locals := 215 } : Room) (va_Pc [.ref (v 0), .int (10), .int (z), .int (e0), .int (e1), .int (e2), .int (e3)] (LWP D T aK aV (WIN T v B O g ln un nx pl f0 f1 f2) sz)) (va_Qi (fun r9 (_ : Unit) => r9 = kE ((O 0) 0 0) (chkB (inN z 2) "java/lang/IndexOutOfBoundsException")) (fun _ t => QS D T (va_A (WIN T v B O g ln un nx pl f0 f1 f2) sz) (wC (WIN T v B (va_up O (11 + z.toNatClampNeg) (O 0)) g ln un nx pl f0 f1 (va_up f2 z.toNatClampNeg 1)) (WIN T v B O g ln un nx pl f0 f1 f2) (chkB (inN z 2) "java/lang/IndexOutOfBoundsException")) t) (va_A (WIN T v B O g ln un nx pl f0 f1 f2) sz)) 4 24 (va_A (WIN T v B O g ln un nx pl f0 f1 f2) sz) := by
  refine metLi (cc := cL_call) (maxL := 8) (by decide) rfl (Nat.le_of_ble_eq_true rfl) ?_
  intro p e s m args below meth c Q ls A hx hb hml hown hts htab hNC hC hP hK hD hA hS hl hret
  have hown : s.vm.findClass RL = some m.cls := hown
  have hl : lv_has ls 8 [(0, .ref (v 0)), (1, .int (10)), (2, .int (z)), (3, .int (e0)), (4, .int (e1)), (5, .int (e2)), (6, .int (e3))] := hl
  have w151 := hts (Cond.classLink RL 151 "java/util/NoSuchElementException") (List.mem_cons_of_mem _ (gT_of mw_646 rfl))
  have w155 := hts (Cond.classLink RL 155 "java/lang/IllegalStateException") (List.mem_cons_of_mem _ (gT_of mw_1186 rfl))
  have w157 := hts (Cond.classLink RL 157 "java/lang/IllegalArgumentException") (List.mem_cons_of_mem _ (gT_of mw_1187 rfl))
  have w159 := hts (Cond.classLink RL 159 "java/lang/IndexOutOfBoundsException") (List.mem_cons_of_mem _ (gT_of mw_1188 rfl))
  refine lv_iload_n hx hb dL_call_0 rfl (lv_at hl 1 rfl) ?_
  refine lv_tableIn (off := 256) (tgt := 257) hx hb dL_call_1 (by decide) (by decide) (by decide) (by decide) ?_
  refine lv_aload_n hx hb dL_call_257 rfl (lv_at hl 0 rfl) ?_
  refine lv_iload_n hx hb dL_call_258 rfl (lv_at hl 2 rfl) ?_
  refine wxVi (As := [.int (z)]) (rest := []) ⟨hx, hb, hml, hown, hts⟩ (c_X9_saveSnapshot l hl9 D T aK aV v B O g ln un nx pl f0 f1 f2 z _) (cwV 1 hts (gC gl_X9_saveSnapshot) rfl rfl rfl (by decide +kernel) ⟨Nat.le_of_ble_eq_true rfl, Nat.le_of_ble_eq_true rfl⟩) (Foc.rfl _ _) (Foc.rfl _ _) hC hK hP hD hS hA 0 rfl rfl rfl hl.1 rfl (Nat.le_of_ble_eq_true rfl) ⟨Nat.le_of_ble_eq_true rfl, Nat.le_of_ble_eq_true rfl⟩ dL_call_259 (fun E ce q9 H locs hE hP hD hS hce hcv hcl => ?_) (fun H locs hE hP hD hS => ?_)
  ·
    have hEx : E = "java/lang/IndexOutOfBoundsException" := (one_chk (P := fun E => E = "java/lang/IndexOutOfBoundsException") (rfl)) E hE
    subst hEx
    refine catL hown htab hNC hC.2.2.2.2 w151 w155 w157 w159 145 (257, 262, 534, 159) rfl rfl (by decide) (by decide +kernel) hce hcv hcl ?_
    refine lv_astore (lv' := [(7, .ref (q9)), (0, .ref (v 0)), (1, .int (10)), (2, .int (z)), (3, .int (e0)), (4, .int (e1)), (5, .int (e2)), (6, .int (e3))]) hx hb dL_call_534 hl (by decide) rfl (fun ls hl => ?_)
    refine lv_bipush (v := -104) hx hb dL_call_536 (by decide) ?_
    refine endI (r := kE ((O 0) 0 0) (chkB (inN z 2) "java/lang/IndexOutOfBoundsException")) (by rw [hE]; rfl) ?_
    exact hret _ _ _ _ _ _ dL_call_538 (by rw [hE]; exact hP) (by rw [hE]; exact hD) hS (by decide) (by decide)
  ·
    have hE1 : kE ((O 0) 0 0) (chkB (inN z 2) "java/lang/IndexOutOfBoundsException") = (O 0) 0 0 := by rw [hE]; rfl
    refine endI (r := kE ((O 0) 0 0) (chkB (inN z 2) "java/lang/IndexOutOfBoundsException")) hE1.symm ?_
    exact hret _ _ _ _ _ _ dL_call_262 (by rw [hE]; exact hP) (by rw [hE]; exact hD) hS (by decide) (by decide)

set_option maxHeartbeats 4000000 in
set_option maxRecDepth 100000 in
theorem c_call_11 (l : Launch) (hl9 : l.stackTraces = false) (D : va_G) (T : Nat → ClassId) (aK aV : Nat → Nat) (v : Nat → Nat) (B : Nat → Nat → Nat) (O : Nat → Nat → Nat → Int32) (g : CSt) (ln un nx pl : Nat) (f0 f1 f2 : Nat → Int32) (z : Int32) (e0 : Int32) (e1 : Int32) (e2 : Int32) (e3 : Int32)  (hu : un ≤ 8) (hnx : nx < 8) (sz : Nat) : Met l yL_call wsL_call ({ frames := 10, cells := 4, slots := 24, locals := 215 } : Room) (va_Pc [.ref (v 0), .int (11), .int (z), .int (e0), .int (e1), .int (e2), .int (e3)] (LWP D T aK aV (WIN T v B O g ln un nx pl f0 f1 f2) sz)) (va_Qi (fun r9 (_ : Unit) => r9 = kE ((O (11 + z.toNatClampNeg)) 0 0) (orE (chkB (inN z 2) "java/lang/IndexOutOfBoundsException") (chkB (!decide (f2 z.toNatClampNeg = 0)) "java/util/NoSuchElementException"))) (fun _ t => QS D T (va_A (WIN T v B O g ln un nx pl f0 f1 f2) sz) (wC (WIN T v B (va_up (va_up O (3 + nx) (O 0)) 0 (O (11 + z.toNatClampNeg))) g ln (if un = 8 then 8 else un + 1) ((nx + 1) % 8) pl f0 f1 f2) (WIN T v B O g ln un nx pl f0 f1 f2) (orE (chkB (inN z 2) "java/lang/IndexOutOfBoundsException") (chkB (!decide (f2 z.toNatClampNeg = 0)) "java/util/NoSuchElementException"))) t) (va_A (WIN T v B O g ln un nx pl f0 f1 f2) sz)) 4 24 (va_A (WIN T v B O g ln un nx pl f0 f1 f2) sz) := by
  refine metLi (cc := cL_call) (maxL := 8) (by decide) rfl (Nat.le_of_ble_eq_true rfl) ?_
  intro p e s m args below meth c Q ls A hx hb hml hown hts htab hNC hC hP hK hD hA hS hl hret
  have hown : s.vm.findClass RL = some m.cls := hown
  have hl : lv_has ls 8 [(0, .ref (v 0)), (1, .int (11)), (2, .int (z)), (3, .int (e0)), (4, .int (e1)), (5, .int (e2)), (6, .int (e3))] := hl
  have w151 := hts (Cond.classLink RL 151 "java/util/NoSuchElementException") (List.mem_cons_of_mem _ (gT_of mw_646 rfl))
  have w155 := hts (Cond.classLink RL 155 "java/lang/IllegalStateException") (List.mem_cons_of_mem _ (gT_of mw_1186 rfl))
  have w157 := hts (Cond.classLink RL 157 "java/lang/IllegalArgumentException") (List.mem_cons_of_mem _ (gT_of mw_1187 rfl))
  have w159 := hts (Cond.classLink RL 159 "java/lang/IndexOutOfBoundsException") (List.mem_cons_of_mem _ (gT_of mw_1188 rfl))
  refine lv_iload_n hx hb dL_call_0 rfl (lv_at hl 1 rfl) ?_
  refine lv_tableIn (off := 262) (tgt := 263) hx hb dL_call_1 (by decide) (by decide) (by decide) (by decide) ?_
  refine lv_aload_n hx hb dL_call_263 rfl (lv_at hl 0 rfl) ?_
  refine lv_iload_n hx hb dL_call_264 rfl (lv_at hl 2 rfl) ?_
  refine wxVi (As := [.int (z)]) (rest := []) ⟨hx, hb, hml, hown, hts⟩ (c_X9_restoreSnapshot l hl9 D T aK aV v B O g ln un nx pl f0 f1 f2 z hu hnx _) (cwV 1 hts (gC gl_X9_restoreSnapshot) rfl rfl rfl (by decide +kernel) ⟨Nat.le_of_ble_eq_true rfl, Nat.le_of_ble_eq_true rfl⟩) (Foc.rfl _ _) (Foc.rfl _ _) hC hK hP hD hS hA 0 rfl rfl rfl hl.1 rfl (Nat.le_of_ble_eq_true rfl) ⟨Nat.le_of_ble_eq_true rfl, Nat.le_of_ble_eq_true rfl⟩ dL_call_265 (fun E ce q9 H locs hE hP hD hS hce hcv hcl => ?_) (fun H locs hE hP hD hS => ?_)
  ·
    have hEx : E = "java/util/NoSuchElementException" ∨ E = "java/lang/IndexOutOfBoundsException" := (one_or (one_chk (P := fun E => E = "java/util/NoSuchElementException" ∨ E = "java/lang/IndexOutOfBoundsException") (Or.inr (rfl))) (one_chk (P := fun E => E = "java/util/NoSuchElementException" ∨ E = "java/lang/IndexOutOfBoundsException") (Or.inl rfl))) E hE
    rcases hEx with rfl | hEx
    ·
      refine catL hown htab hNC hC.2.2.2.2 w151 w155 w157 w159 11 (263, 268, 519, 151) rfl rfl (by decide) (by decide +kernel) hce hcv hcl ?_
      refine lv_astore (lv' := [(7, .ref (q9)), (0, .ref (v 0)), (1, .int (11)), (2, .int (z)), (3, .int (e0)), (4, .int (e1)), (5, .int (e2)), (6, .int (e3))]) hx hb dL_call_519 hl (by decide) rfl (fun ls hl => ?_)
      refine lv_bipush (v := -101) hx hb dL_call_521 (by decide) ?_
      refine endI (r := kE ((O (11 + z.toNatClampNeg)) 0 0) (orE (chkB (inN z 2) "java/lang/IndexOutOfBoundsException") (chkB (!decide (f2 z.toNatClampNeg = 0)) "java/util/NoSuchElementException"))) (by rw [hE]; rfl) ?_
      exact hret _ _ _ _ _ _ dL_call_523 (by rw [hE]; exact hP) (by rw [hE]; exact hD) hS (by decide) (by decide)
    ·
      subst hEx
      refine catL hown htab hNC hC.2.2.2.2 w151 w155 w157 w159 146 (263, 268, 534, 159) rfl rfl (by decide) (by decide +kernel) hce hcv hcl ?_
      refine lv_astore (lv' := [(7, .ref (q9)), (0, .ref (v 0)), (1, .int (11)), (2, .int (z)), (3, .int (e0)), (4, .int (e1)), (5, .int (e2)), (6, .int (e3))]) hx hb dL_call_534 hl (by decide) rfl (fun ls hl => ?_)
      refine lv_bipush (v := -104) hx hb dL_call_536 (by decide) ?_
      refine endI (r := kE ((O (11 + z.toNatClampNeg)) 0 0) (orE (chkB (inN z 2) "java/lang/IndexOutOfBoundsException") (chkB (!decide (f2 z.toNatClampNeg = 0)) "java/util/NoSuchElementException"))) (by rw [hE]; rfl) ?_
      exact hret _ _ _ _ _ _ dL_call_538 (by rw [hE]; exact hP) (by rw [hE]; exact hD) hS (by decide) (by decide)
  ·
    have hE1 : kE ((O (11 + z.toNatClampNeg)) 0 0) (orE (chkB (inN z 2) "java/lang/IndexOutOfBoundsException") (chkB (!decide (f2 z.toNatClampNeg = 0)) "java/util/NoSuchElementException")) = (O (11 + z.toNatClampNeg)) 0 0 := by rw [hE]; rfl
    refine endI (r := kE ((O (11 + z.toNatClampNeg)) 0 0) (orE (chkB (inN z 2) "java/lang/IndexOutOfBoundsException") (chkB (!decide (f2 z.toNatClampNeg = 0)) "java/util/NoSuchElementException"))) hE1.symm ?_
    exact hret _ _ _ _ _ _ dL_call_268 (by rw [hE]; exact hP) (by rw [hE]; exact hD) hS (by decide) (by decide)

set_option maxHeartbeats 4000000 in
set_option maxRecDepth 100000 in
theorem c_call_12 (l : Launch) (hl9 : l.stackTraces = false) (D : va_G) (T : Nat → ClassId) (aK aV : Nat → Nat) (v : Nat → Nat) (B : Nat → Nat → Nat) (O : Nat → Nat → Nat → Int32) (g : CSt) (ln un nx pl : Nat) (f0 f1 f2 : Nat → Int32) (e0 : Int32) (e1 : Int32) (e2 : Int32) (e3 : Int32) (e4 : Int32)  (hL2 : ln ≤ 600) (hby : ∀ i, i < ln → ¬ f0 i = -1) (sz : Nat) : Met l yL_call wsL_call ({ frames := 10, cells := 4, slots := 24, locals := 215 } : Room) (va_Pc [.ref (v 0), .int (12), .int (e0), .int (e1), .int (e2), .int (e3), .int (e4)] (LWP D T aK aV (WIN T v B O g ln un nx pl f0 f1 f2) sz)) (va_Qi (fun r9 (_ : Unit) => r9 = kE ((rd4 f0 ln (O 2, g)).2.1 0 7) (chkB (!(rd5 f0 ln (O 2, g)).2.2.2.1) "java/lang/IllegalArgumentException")) (fun _ t => QS D T (va_A (WIN T v B O g ln un nx pl f0 f1 f2) sz) (wC (WIN T v B (va_up (va_up O 2 ((rd4 f0 ln (O 2, g)).2.1)) 0 ((rd4 f0 ln (O 2, g)).2.1)) (rd5 f0 ln (O 2, g)) 0 0 nx pl f0 f1 (iter (fun k f => va_up f k 0) 2 0 f2)) (WIN T v B (va_up O 2 ((rd4 f0 ln (O 2, g)).2.1)) (rd5 f0 ln (O 2, g)) 0 un nx pl f0 f1 f2) (chkB (!(rd5 f0 ln (O 2, g)).2.2.2.1) "java/lang/IllegalArgumentException")) t) (va_A (WIN T v B O g ln un nx pl f0 f1 f2) sz)) 4 24 (va_A (WIN T v B O g ln un nx pl f0 f1 f2) sz) := by
  refine metLi (cc := cL_call) (maxL := 8) (by decide) rfl (Nat.le_of_ble_eq_true rfl) ?_
  intro p e s m args below meth c Q ls A hx hb hml hown hts htab hNC hC hP hK hD hA hS hl hret
  have hown : s.vm.findClass RL = some m.cls := hown
  have hl : lv_has ls 8 [(0, .ref (v 0)), (1, .int (12)), (2, .int (e0)), (3, .int (e1)), (4, .int (e2)), (5, .int (e3)), (6, .int (e4))] := hl
  have w151 := hts (Cond.classLink RL 151 "java/util/NoSuchElementException") (List.mem_cons_of_mem _ (gT_of mw_646 rfl))
  have w155 := hts (Cond.classLink RL 155 "java/lang/IllegalStateException") (List.mem_cons_of_mem _ (gT_of mw_1186 rfl))
  have w157 := hts (Cond.classLink RL 157 "java/lang/IllegalArgumentException") (List.mem_cons_of_mem _ (gT_of mw_1187 rfl))
  have w159 := hts (Cond.classLink RL 159 "java/lang/IndexOutOfBoundsException") (List.mem_cons_of_mem _ (gT_of mw_1188 rfl))
  refine lv_iload_n hx hb dL_call_0 rfl (lv_at hl 1 rfl) ?_
  refine lv_tableIn (off := 268) (tgt := 269) hx hb dL_call_1 (by decide) (by decide) (by decide) (by decide) ?_
  refine lv_aload_n hx hb dL_call_269 rfl (lv_at hl 0 rfl) ?_
  refine wxVi (As := []) (rest := []) ⟨hx, hb, hml, hown, hts⟩ (c_X9_load l hl9 D T aK aV v B O g ln un nx pl f0 f1 f2 hL2 hby _) (cwV 0 hts (gC gl_X9_load) rfl rfl rfl (by decide +kernel) ⟨Nat.le_of_ble_eq_true rfl, Nat.le_of_ble_eq_true rfl⟩) (Foc.rfl _ _) (Foc.rfl _ _) hC hK hP hD hS hA 0 rfl rfl rfl hl.1 rfl (Nat.le_of_ble_eq_true rfl) ⟨Nat.le_of_ble_eq_true rfl, Nat.le_of_ble_eq_true rfl⟩ dL_call_270 (fun E ce q9 H locs hE hP hD hS hce hcv hcl => ?_) (fun H locs hE hP hD hS => ?_)
  ·
    have hEx : E = "java/lang/IllegalArgumentException" := (one_chk (P := fun E => E = "java/lang/IllegalArgumentException") (rfl)) E hE
    subst hEx
    refine catL hown htab hNC hC.2.2.2.2 w151 w155 w157 w159 102 (269, 273, 529, 157) rfl rfl (by decide) (by decide +kernel) hce hcv hcl ?_
    refine lv_astore (lv' := [(7, .ref (q9)), (0, .ref (v 0)), (1, .int (12)), (2, .int (e0)), (3, .int (e1)), (4, .int (e2)), (5, .int (e3)), (6, .int (e4))]) hx hb dL_call_529 hl (by decide) rfl (fun ls hl => ?_)
    refine lv_bipush (v := -103) hx hb dL_call_531 (by decide) ?_
    refine endI (r := kE ((rd4 f0 ln (O 2, g)).2.1 0 7) (chkB (!(rd5 f0 ln (O 2, g)).2.2.2.1) "java/lang/IllegalArgumentException")) (by rw [hE]; rfl) ?_
    exact hret _ _ _ _ _ _ dL_call_533 (by rw [hE]; exact hP) (by rw [hE]; exact hD) hS (by decide) (by decide)
  ·
    have hE1 : kE ((rd4 f0 ln (O 2, g)).2.1 0 7) (chkB (!(rd5 f0 ln (O 2, g)).2.2.2.1) "java/lang/IllegalArgumentException") = (rd4 f0 ln (O 2, g)).2.1 0 7 := by rw [hE]; rfl
    refine endI (r := kE ((rd4 f0 ln (O 2, g)).2.1 0 7) (chkB (!(rd5 f0 ln (O 2, g)).2.2.2.1) "java/lang/IllegalArgumentException")) hE1.symm ?_
    exact hret _ _ _ _ _ _ dL_call_273 (by rw [hE]; exact hP) (by rw [hE]; exact hD) hS (by decide) (by decide)

set_option maxHeartbeats 4000000 in
set_option maxRecDepth 100000 in
theorem c_call_13 (l : Launch) (hl9 : l.stackTraces = false) (D : va_G) (T : Nat → ClassId) (aK aV : Nat → Nat) (v : Nat → Nat) (B : Nat → Nat → Nat) (O : Nat → Nat → Nat → Int32) (g : CSt) (ln un nx pl : Nat) (f0 f1 f2 : Nat → Int32) (a1 : Int32) (a2 : Int32) (a3 : Int32) (a4 : Int32) (a5 : Int32)  (hL2 : ln ≤ 600) (sz : Nat) : Met l yL_call wsL_call ({ frames := 10, cells := 4, slots := 24, locals := 215 } : Room) (va_Pc [.ref (v 0), .int (13), .int (a1), .int (a2), .int (a3), .int (a4), .int (a5)] (LWP D T aK aV (WIN T v B O g ln un nx pl f0 f1 f2) sz)) (va_Qi (fun r9 (_ : Unit) => r9 = kE (nI (ln + 20)) (chkB (decide (ln ≤ 580)) "java/lang/IllegalStateException")) (fun _ t => QS D T (va_A (WIN T v B O g ln un nx pl f0 f1 f2) sz) (wC (WIN T v B O g (ln + 20) un nx pl (appC a1 a2 a3 a4 a5 ln f0) f1 f2) (WIN T v B O g ln un nx pl f0 f1 f2) (chkB (decide (ln ≤ 580)) "java/lang/IllegalStateException")) t) (va_A (WIN T v B O g ln un nx pl f0 f1 f2) sz)) 4 24 (va_A (WIN T v B O g ln un nx pl f0 f1 f2) sz) := by
  refine metLi (cc := cL_call) (maxL := 8) (by decide) rfl (Nat.le_of_ble_eq_true rfl) ?_
  intro p e s m args below meth c Q ls A hx hb hml hown hts htab hNC hC hP hK hD hA hS hl hret
  have hown : s.vm.findClass RL = some m.cls := hown
  have hl : lv_has ls 8 [(0, .ref (v 0)), (1, .int (13)), (2, .int (a1)), (3, .int (a2)), (4, .int (a3)), (5, .int (a4)), (6, .int (a5))] := hl
  have w151 := hts (Cond.classLink RL 151 "java/util/NoSuchElementException") (List.mem_cons_of_mem _ (gT_of mw_646 rfl))
  have w155 := hts (Cond.classLink RL 155 "java/lang/IllegalStateException") (List.mem_cons_of_mem _ (gT_of mw_1186 rfl))
  have w157 := hts (Cond.classLink RL 157 "java/lang/IllegalArgumentException") (List.mem_cons_of_mem _ (gT_of mw_1187 rfl))
  have w159 := hts (Cond.classLink RL 159 "java/lang/IndexOutOfBoundsException") (List.mem_cons_of_mem _ (gT_of mw_1188 rfl))
  refine lv_iload_n hx hb dL_call_0 rfl (lv_at hl 1 rfl) ?_
  refine lv_tableIn (off := 273) (tgt := 274) hx hb dL_call_1 (by decide) (by decide) (by decide) (by decide) ?_
  refine lv_aload_n hx hb dL_call_274 rfl (lv_at hl 0 rfl) ?_
  refine lv_iload_n hx hb dL_call_275 rfl (lv_at hl 2 rfl) ?_
  refine lv_iload_n hx hb dL_call_276 rfl (lv_at hl 3 rfl) ?_
  refine lv_iload hx hb dL_call_277 (lv_at hl 4 rfl) ?_
  refine lv_iload hx hb dL_call_279 (lv_at hl 5 rfl) ?_
  refine lv_iload hx hb dL_call_281 (lv_at hl 6 rfl) ?_
  refine wxVi (As := [.int (a1), .int (a2), .int (a3), .int (a4), .int (a5)]) (rest := []) ⟨hx, hb, hml, hown, hts⟩ (c_X9_append l hl9 D T aK aV v B O g ln un nx pl f0 f1 f2 a1 a2 a3 a4 a5 hL2 _) (cwV 5 hts (gC gl_X9_append) rfl rfl rfl (by decide +kernel) ⟨Nat.le_of_ble_eq_true rfl, Nat.le_of_ble_eq_true rfl⟩) (Foc.rfl _ _) (Foc.rfl _ _) hC hK hP hD hS hA 0 rfl rfl rfl hl.1 rfl (Nat.le_of_ble_eq_true rfl) ⟨Nat.le_of_ble_eq_true rfl, Nat.le_of_ble_eq_true rfl⟩ dL_call_283 (fun E ce q9 H locs hE hP hD hS hce hcv hcl => ?_) (fun H locs hE hP hD hS => ?_)
  ·
    have hEx : E = "java/lang/IllegalStateException" := (one_chk (P := fun E => E = "java/lang/IllegalStateException") (rfl)) E hE
    subst hEx
    refine catL hown htab hNC hC.2.2.2.2 w151 w155 w157 w159 58 (274, 286, 524, 155) rfl rfl (by decide) (by decide +kernel) hce hcv hcl ?_
    refine lv_astore (lv' := [(7, .ref (q9)), (0, .ref (v 0)), (1, .int (13)), (2, .int (a1)), (3, .int (a2)), (4, .int (a3)), (5, .int (a4)), (6, .int (a5))]) hx hb dL_call_524 hl (by decide) rfl (fun ls hl => ?_)
    refine lv_bipush (v := -102) hx hb dL_call_526 (by decide) ?_
    refine endI (r := kE (nI (ln + 20)) (chkB (decide (ln ≤ 580)) "java/lang/IllegalStateException")) (by rw [hE]; rfl) ?_
    exact hret _ _ _ _ _ _ dL_call_528 (by rw [hE]; exact hP) (by rw [hE]; exact hD) hS (by decide) (by decide)
  ·
    have hE1 : kE (nI (ln + 20)) (chkB (decide (ln ≤ 580)) "java/lang/IllegalStateException") = nI (ln + 20) := by rw [hE]; rfl
    refine endI (r := kE (nI (ln + 20)) (chkB (decide (ln ≤ 580)) "java/lang/IllegalStateException")) hE1.symm ?_
    exact hret _ _ _ _ _ _ dL_call_286 (by rw [hE]; exact hP) (by rw [hE]; exact hD) hS (by decide) (by decide)

set_option maxHeartbeats 4000000 in
set_option maxRecDepth 100000 in
theorem c_call_14 (l : Launch) (hl9 : l.stackTraces = false) (D : va_G) (T : Nat → ClassId) (aK aV : Nat → Nat) (v : Nat → Nat) (B : Nat → Nat → Nat) (O : Nat → Nat → Nat → Int32) (g : CSt) (ln un nx pl : Nat) (f0 f1 f2 : Nat → Int32) (z : Int32) (e0 : Int32) (e1 : Int32) (e2 : Int32) (e3 : Int32)  (hL2 : ln ≤ 600) (sz : Nat) : Met l yL_call wsL_call ({ frames := 10, cells := 4, slots := 24, locals := 215 } : Room) (va_Pc [.ref (v 0), .int (14), .int (z), .int (e0), .int (e1), .int (e2), .int (e3)] (LWP D T aK aV (WIN T v B O g ln un nx pl f0 f1 f2) sz)) (va_Qi (fun r9 (_ : Unit) => r9 = kE z (chkB (rg z 0 (nI ln)) "java/lang/IllegalArgumentException")) (fun _ t => QS D T (va_A (WIN T v B O g ln un nx pl f0 f1 f2) sz) (wC (WIN T v B O g z.toNatClampNeg un nx pl f0 f1 f2) (WIN T v B O g ln un nx pl f0 f1 f2) (chkB (rg z 0 (nI ln)) "java/lang/IllegalArgumentException")) t) (va_A (WIN T v B O g ln un nx pl f0 f1 f2) sz)) 4 24 (va_A (WIN T v B O g ln un nx pl f0 f1 f2) sz) := by
  refine metLi (cc := cL_call) (maxL := 8) (by decide) rfl (Nat.le_of_ble_eq_true rfl) ?_
  intro p e s m args below meth c Q ls A hx hb hml hown hts htab hNC hC hP hK hD hA hS hl hret
  have hown : s.vm.findClass RL = some m.cls := hown
  have hl : lv_has ls 8 [(0, .ref (v 0)), (1, .int (14)), (2, .int (z)), (3, .int (e0)), (4, .int (e1)), (5, .int (e2)), (6, .int (e3))] := hl
  have w151 := hts (Cond.classLink RL 151 "java/util/NoSuchElementException") (List.mem_cons_of_mem _ (gT_of mw_646 rfl))
  have w155 := hts (Cond.classLink RL 155 "java/lang/IllegalStateException") (List.mem_cons_of_mem _ (gT_of mw_1186 rfl))
  have w157 := hts (Cond.classLink RL 157 "java/lang/IllegalArgumentException") (List.mem_cons_of_mem _ (gT_of mw_1187 rfl))
  have w159 := hts (Cond.classLink RL 159 "java/lang/IndexOutOfBoundsException") (List.mem_cons_of_mem _ (gT_of mw_1188 rfl))
  refine lv_iload_n hx hb dL_call_0 rfl (lv_at hl 1 rfl) ?_
  refine lv_tableIn (off := 286) (tgt := 287) hx hb dL_call_1 (by decide) (by decide) (by decide) (by decide) ?_
  refine lv_aload_n hx hb dL_call_287 rfl (lv_at hl 0 rfl) ?_
  refine lv_iload_n hx hb dL_call_288 rfl (lv_at hl 2 rfl) ?_
  refine wxVi (As := [.int (z)]) (rest := []) ⟨hx, hb, hml, hown, hts⟩ (c_X9_shorten l hl9 D T aK aV v B O g ln un nx pl f0 f1 f2 z hL2 _) (cwV 1 hts (gC gl_X9_shorten) rfl rfl rfl (by decide +kernel) ⟨Nat.le_of_ble_eq_true rfl, Nat.le_of_ble_eq_true rfl⟩) (Foc.rfl _ _) (Foc.rfl _ _) hC hK hP hD hS hA 0 rfl rfl rfl hl.1 rfl (Nat.le_of_ble_eq_true rfl) ⟨Nat.le_of_ble_eq_true rfl, Nat.le_of_ble_eq_true rfl⟩ dL_call_289 (fun E ce q9 H locs hE hP hD hS hce hcv hcl => ?_) (fun H locs hE hP hD hS => ?_)
  ·
    have hEx : E = "java/lang/IllegalArgumentException" := (one_chk (P := fun E => E = "java/lang/IllegalArgumentException") (rfl)) E hE
    subst hEx
    refine catL hown htab hNC hC.2.2.2.2 w151 w155 w157 w159 104 (287, 292, 529, 157) rfl rfl (by decide) (by decide +kernel) hce hcv hcl ?_
    refine lv_astore (lv' := [(7, .ref (q9)), (0, .ref (v 0)), (1, .int (14)), (2, .int (z)), (3, .int (e0)), (4, .int (e1)), (5, .int (e2)), (6, .int (e3))]) hx hb dL_call_529 hl (by decide) rfl (fun ls hl => ?_)
    refine lv_bipush (v := -103) hx hb dL_call_531 (by decide) ?_
    refine endI (r := kE z (chkB (rg z 0 (nI ln)) "java/lang/IllegalArgumentException")) (by rw [hE]; rfl) ?_
    exact hret _ _ _ _ _ _ dL_call_533 (by rw [hE]; exact hP) (by rw [hE]; exact hD) hS (by decide) (by decide)
  ·
    have hE1 : kE z (chkB (rg z 0 (nI ln)) "java/lang/IllegalArgumentException") = z := by rw [hE]; rfl
    refine endI (r := kE z (chkB (rg z 0 (nI ln)) "java/lang/IllegalArgumentException")) hE1.symm ?_
    exact hret _ _ _ _ _ _ dL_call_292 (by rw [hE]; exact hP) (by rw [hE]; exact hD) hS (by decide) (by decide)

set_option maxHeartbeats 4000000 in
set_option maxRecDepth 100000 in
theorem c_call_15 (l : Launch) (hl9 : l.stackTraces = false) (D : va_G) (T : Nat → ClassId) (aK aV : Nat → Nat) (v : Nat → Nat) (B : Nat → Nat → Nat) (O : Nat → Nat → Nat → Int32) (g : CSt) (ln un nx pl : Nat) (f0 f1 f2 : Nat → Int32) (e0 : Int32) (e1 : Int32) (e2 : Int32) (e3 : Int32) (e4 : Int32)  (sz : Nat) : Met l yL_call wsL_call ({ frames := 10, cells := 4, slots := 24, locals := 215 } : Room) (va_Pc [.ref (v 0), .int (15), .int (e0), .int (e1), .int (e2), .int (e3), .int (e4)] (LWP D T aK aV (WIN T v B O g ln un nx pl f0 f1 f2) sz)) (va_Qi (fun r9 (_ : Unit) => r9 = kE g.2.2.2.2 (chkB (g.2.2.2.1) "java/util/NoSuchElementException")) (fun _ t => QS D T (va_A (WIN T v B O g ln un nx pl f0 f1 f2) sz) (WIN T v B O g ln un nx pl f0 f1 f2) t) (va_A (WIN T v B O g ln un nx pl f0 f1 f2) sz)) 4 24 (va_A (WIN T v B O g ln un nx pl f0 f1 f2) sz) := by
  refine metLi (cc := cL_call) (maxL := 8) (by decide) rfl (Nat.le_of_ble_eq_true rfl) ?_
  intro p e s m args below meth c Q ls A hx hb hml hown hts htab hNC hC hP hK hD hA hS hl hret
  have hown : s.vm.findClass RL = some m.cls := hown
  have hl : lv_has ls 8 [(0, .ref (v 0)), (1, .int (15)), (2, .int (e0)), (3, .int (e1)), (4, .int (e2)), (5, .int (e3)), (6, .int (e4))] := hl
  have w151 := hts (Cond.classLink RL 151 "java/util/NoSuchElementException") (List.mem_cons_of_mem _ (gT_of mw_646 rfl))
  have w155 := hts (Cond.classLink RL 155 "java/lang/IllegalStateException") (List.mem_cons_of_mem _ (gT_of mw_1186 rfl))
  have w157 := hts (Cond.classLink RL 157 "java/lang/IllegalArgumentException") (List.mem_cons_of_mem _ (gT_of mw_1187 rfl))
  have w159 := hts (Cond.classLink RL 159 "java/lang/IndexOutOfBoundsException") (List.mem_cons_of_mem _ (gT_of mw_1188 rfl))
  refine lv_iload_n hx hb dL_call_0 rfl (lv_at hl 1 rfl) ?_
  refine lv_tableIn (off := 292) (tgt := 293) hx hb dL_call_1 (by decide) (by decide) (by decide) (by decide) ?_
  refine lv_aload_n hx hb dL_call_293 rfl (lv_at hl 0 rfl) ?_
  refine wxVi (As := []) (rest := []) ⟨hx, hb, hml, hown, hts⟩ (c_X9_errorOffset l hl9 D T aK aV v B O g ln un nx pl f0 f1 f2 _) (cwV 0 hts (gC gl_X9_errorOffset) rfl rfl rfl (by decide +kernel) ⟨Nat.le_of_ble_eq_true rfl, Nat.le_of_ble_eq_true rfl⟩) (Foc.rfl _ _) (Foc.rfl _ _) hC hK hP hD hS hA 0 rfl rfl rfl hl.1 rfl (Nat.le_of_ble_eq_true rfl) ⟨Nat.le_of_ble_eq_true rfl, Nat.le_of_ble_eq_true rfl⟩ dL_call_294 (fun E ce q9 H locs hE hP hD hS hce hcv hcl => ?_) (fun H locs hE hP hD hS => ?_)
  ·
    have hEx : E = "java/util/NoSuchElementException" := (one_chk (P := fun E => E = "java/util/NoSuchElementException") (rfl)) E hE
    subst hEx
    refine catL hown htab hNC hC.2.2.2.2 w151 w155 w157 w159 15 (293, 297, 519, 151) rfl rfl (by decide) (by decide +kernel) hce hcv hcl ?_
    refine lv_astore (lv' := [(7, .ref (q9)), (0, .ref (v 0)), (1, .int (15)), (2, .int (e0)), (3, .int (e1)), (4, .int (e2)), (5, .int (e3)), (6, .int (e4))]) hx hb dL_call_519 hl (by decide) rfl (fun ls hl => ?_)
    refine lv_bipush (v := -101) hx hb dL_call_521 (by decide) ?_
    refine endI (r := kE g.2.2.2.2 (chkB (g.2.2.2.1) "java/util/NoSuchElementException")) (by rw [hE]; rfl) ?_
    exact hret _ _ _ _ _ _ dL_call_523 hP hD hS (by decide) (by decide)
  ·
    have hE1 : kE g.2.2.2.2 (chkB (g.2.2.2.1) "java/util/NoSuchElementException") = g.2.2.2.2 := by rw [hE]; rfl
    refine endI (r := kE g.2.2.2.2 (chkB (g.2.2.2.1) "java/util/NoSuchElementException")) hE1.symm ?_
    exact hret _ _ _ _ _ _ dL_call_297 hP hD hS (by decide) (by decide)

set_option maxHeartbeats 4000000 in
set_option maxRecDepth 100000 in
theorem c_call_16 (l : Launch) (hl9 : l.stackTraces = false) (D : va_G) (T : Nat → ClassId) (aK aV : Nat → Nat) (v : Nat → Nat) (B : Nat → Nat → Nat) (O : Nat → Nat → Nat → Int32) (g : CSt) (ln un nx pl : Nat) (f0 f1 f2 : Nat → Int32) (z : Int32) (e0 : Int32) (e1 : Int32) (e2 : Int32) (e3 : Int32) (N : Nat) (K : Nat) (C : Nat) (nt : Nat) (hOI : OI (O 0) N K C nt) (sz : Nat) : Met l yL_call wsL_call ({ frames := 10, cells := 4, slots := 24, locals := 215 } : Room) (va_Pc [.ref (v 0), .int (16), .int (z), .int (e0), .int (e1), .int (e2), .int (e3)] (LWP D T aK aV (WIN T v B O g ln un nx pl f0 f1 f2) sz)) (va_Qi (fun r9 (_ : Unit) => r9 = kE (nI (lightN z.toNatClampNeg)) (chkB (rg z 0 2000) "java/lang/IllegalArgumentException")) (fun _ t => QS D T (va_A (WIN T v B O g ln un nx pl f0 f1 f2) sz) (WIN T v B O g ln un nx pl f0 f1 f2) t) (va_A (WIN T v B O g ln un nx pl f0 f1 f2) sz)) 4 24 (va_A (WIN T v B O g ln un nx pl f0 f1 f2) sz) := by
  refine metLi (cc := cL_call) (maxL := 8) (by decide) rfl (Nat.le_of_ble_eq_true rfl) ?_
  intro p e s m args below meth c Q ls A hx hb hml hown hts htab hNC hC hP hK hD hA hS hl hret
  have hown : s.vm.findClass RL = some m.cls := hown
  have hl : lv_has ls 8 [(0, .ref (v 0)), (1, .int (16)), (2, .int (z)), (3, .int (e0)), (4, .int (e1)), (5, .int (e2)), (6, .int (e3))] := hl
  have w151 := hts (Cond.classLink RL 151 "java/util/NoSuchElementException") (List.mem_cons_of_mem _ (gT_of mw_646 rfl))
  have w155 := hts (Cond.classLink RL 155 "java/lang/IllegalStateException") (List.mem_cons_of_mem _ (gT_of mw_1186 rfl))
  have w157 := hts (Cond.classLink RL 157 "java/lang/IllegalArgumentException") (List.mem_cons_of_mem _ (gT_of mw_1187 rfl))
  have w159 := hts (Cond.classLink RL 159 "java/lang/IndexOutOfBoundsException") (List.mem_cons_of_mem _ (gT_of mw_1188 rfl))
  refine lv_iload_n hx hb dL_call_0 rfl (lv_at hl 1 rfl) ?_
  refine lv_tableIn (off := 297) (tgt := 298) hx hb dL_call_1 (by decide) (by decide) (by decide) (by decide) ?_
  refine lv_aload_n hx hb dL_call_298 rfl (lv_at hl 0 rfl) ?_
  refine lv_iload_n hx hb dL_call_299 rfl (lv_at hl 2 rfl) ?_
  refine wxVi (As := [.int (z)]) (rest := []) ⟨hx, hb, hml, hown, hts⟩ (c_X9_lightOf l hl9 D T aK aV v B O g ln un nx pl f0 f1 f2 z N K C nt hOI _) (cwV 1 hts (gC gl_X9_lightOf) rfl rfl rfl (by decide +kernel) ⟨Nat.le_of_ble_eq_true rfl, Nat.le_of_ble_eq_true rfl⟩) (Foc.rfl _ _) (Foc.rfl _ _) hC hK hP hD hS hA 0 rfl rfl rfl hl.1 rfl (Nat.le_of_ble_eq_true rfl) ⟨Nat.le_of_ble_eq_true rfl, Nat.le_of_ble_eq_true rfl⟩ dL_call_300 (fun E ce q9 H locs hE hP hD hS hce hcv hcl => ?_) (fun H locs hE hP hD hS => ?_)
  ·
    have hEx : E = "java/lang/IllegalArgumentException" := (one_chk (P := fun E => E = "java/lang/IllegalArgumentException") (rfl)) E hE
    subst hEx
    refine catL hown htab hNC hC.2.2.2.2 w151 w155 w157 w159 106 (298, 303, 529, 157) rfl rfl (by decide) (by decide +kernel) hce hcv hcl ?_
    refine lv_astore (lv' := [(7, .ref (q9)), (0, .ref (v 0)), (1, .int (16)), (2, .int (z)), (3, .int (e0)), (4, .int (e1)), (5, .int (e2)), (6, .int (e3))]) hx hb dL_call_529 hl (by decide) rfl (fun ls hl => ?_)
    refine lv_bipush (v := -103) hx hb dL_call_531 (by decide) ?_
    refine endI (r := kE (nI (lightN z.toNatClampNeg)) (chkB (rg z 0 2000) "java/lang/IllegalArgumentException")) (by rw [hE]; rfl) ?_
    exact hret _ _ _ _ _ _ dL_call_533 hP hD hS (by decide) (by decide)
  ·
    have hE1 : kE (nI (lightN z.toNatClampNeg)) (chkB (rg z 0 2000) "java/lang/IllegalArgumentException") = nI (lightN z.toNatClampNeg) := by rw [hE]; rfl
    refine endI (r := kE (nI (lightN z.toNatClampNeg)) (chkB (rg z 0 2000) "java/lang/IllegalArgumentException")) hE1.symm ?_
    exact hret _ _ _ _ _ _ dL_call_303 hP hD hS (by decide) (by decide)

set_option maxHeartbeats 4000000 in
set_option maxRecDepth 100000 in
theorem c_call_17 (l : Launch) (hl9 : l.stackTraces = false) (D : va_G) (T : Nat → ClassId) (aK aV : Nat → Nat) (v : Nat → Nat) (B : Nat → Nat → Nat) (O : Nat → Nat → Nat → Int32) (g : CSt) (ln un nx pl : Nat) (f0 f1 f2 : Nat → Int32) (z : Int32) (e0 : Int32) (e1 : Int32) (e2 : Int32) (e3 : Int32) (N : Nat) (K : Nat) (C : Nat) (nt : Nat) (hOI : OI (O 0) N K C nt) (sz : Nat) : Met l yL_call wsL_call ({ frames := 10, cells := 4, slots := 24, locals := 215 } : Room) (va_Pc [.ref (v 0), .int (17), .int (z), .int (e0), .int (e1), .int (e2), .int (e3)] (LWP D T aK aV (WIN T v B O g ln un nx pl f0 f1 f2) sz)) (va_Qi (fun r9 (_ : Unit) => r9 = kE (nI (tideN z.toNatClampNeg)) (chkB (rg z 0 2000) "java/lang/IllegalArgumentException")) (fun _ t => QS D T (va_A (WIN T v B O g ln un nx pl f0 f1 f2) sz) (WIN T v B O g ln un nx pl f0 f1 f2) t) (va_A (WIN T v B O g ln un nx pl f0 f1 f2) sz)) 4 24 (va_A (WIN T v B O g ln un nx pl f0 f1 f2) sz) := by
  refine metLi (cc := cL_call) (maxL := 8) (by decide) rfl (Nat.le_of_ble_eq_true rfl) ?_
  intro p e s m args below meth c Q ls A hx hb hml hown hts htab hNC hC hP hK hD hA hS hl hret
  have hown : s.vm.findClass RL = some m.cls := hown
  have hl : lv_has ls 8 [(0, .ref (v 0)), (1, .int (17)), (2, .int (z)), (3, .int (e0)), (4, .int (e1)), (5, .int (e2)), (6, .int (e3))] := hl
  have w151 := hts (Cond.classLink RL 151 "java/util/NoSuchElementException") (List.mem_cons_of_mem _ (gT_of mw_646 rfl))
  have w155 := hts (Cond.classLink RL 155 "java/lang/IllegalStateException") (List.mem_cons_of_mem _ (gT_of mw_1186 rfl))
  have w157 := hts (Cond.classLink RL 157 "java/lang/IllegalArgumentException") (List.mem_cons_of_mem _ (gT_of mw_1187 rfl))
  have w159 := hts (Cond.classLink RL 159 "java/lang/IndexOutOfBoundsException") (List.mem_cons_of_mem _ (gT_of mw_1188 rfl))
  refine lv_iload_n hx hb dL_call_0 rfl (lv_at hl 1 rfl) ?_
  refine lv_tableIn (off := 303) (tgt := 304) hx hb dL_call_1 (by decide) (by decide) (by decide) (by decide) ?_
  refine lv_aload_n hx hb dL_call_304 rfl (lv_at hl 0 rfl) ?_
  refine lv_iload_n hx hb dL_call_305 rfl (lv_at hl 2 rfl) ?_
  refine wxVi (As := [.int (z)]) (rest := []) ⟨hx, hb, hml, hown, hts⟩ (c_X9_tideOf l hl9 D T aK aV v B O g ln un nx pl f0 f1 f2 z N K C nt hOI _) (cwV 1 hts (gC gl_X9_tideOf) rfl rfl rfl (by decide +kernel) ⟨Nat.le_of_ble_eq_true rfl, Nat.le_of_ble_eq_true rfl⟩) (Foc.rfl _ _) (Foc.rfl _ _) hC hK hP hD hS hA 0 rfl rfl rfl hl.1 rfl (Nat.le_of_ble_eq_true rfl) ⟨Nat.le_of_ble_eq_true rfl, Nat.le_of_ble_eq_true rfl⟩ dL_call_306 (fun E ce q9 H locs hE hP hD hS hce hcv hcl => ?_) (fun H locs hE hP hD hS => ?_)
  ·
    have hEx : E = "java/lang/IllegalArgumentException" := (one_chk (P := fun E => E = "java/lang/IllegalArgumentException") (rfl)) E hE
    subst hEx
    refine catL hown htab hNC hC.2.2.2.2 w151 w155 w157 w159 107 (304, 309, 529, 157) rfl rfl (by decide) (by decide +kernel) hce hcv hcl ?_
    refine lv_astore (lv' := [(7, .ref (q9)), (0, .ref (v 0)), (1, .int (17)), (2, .int (z)), (3, .int (e0)), (4, .int (e1)), (5, .int (e2)), (6, .int (e3))]) hx hb dL_call_529 hl (by decide) rfl (fun ls hl => ?_)
    refine lv_bipush (v := -103) hx hb dL_call_531 (by decide) ?_
    refine endI (r := kE (nI (tideN z.toNatClampNeg)) (chkB (rg z 0 2000) "java/lang/IllegalArgumentException")) (by rw [hE]; rfl) ?_
    exact hret _ _ _ _ _ _ dL_call_533 hP hD hS (by decide) (by decide)
  ·
    have hE1 : kE (nI (tideN z.toNatClampNeg)) (chkB (rg z 0 2000) "java/lang/IllegalArgumentException") = nI (tideN z.toNatClampNeg) := by rw [hE]; rfl
    refine endI (r := kE (nI (tideN z.toNatClampNeg)) (chkB (rg z 0 2000) "java/lang/IllegalArgumentException")) hE1.symm ?_
    exact hret _ _ _ _ _ _ dL_call_309 hP hD hS (by decide) (by decide)

set_option maxHeartbeats 4000000 in
set_option maxRecDepth 100000 in
theorem c_call_18 (l : Launch) (hl9 : l.stackTraces = false) (D : va_G) (T : Nat → ClassId) (aK aV : Nat → Nat) (v : Nat → Nat) (B : Nat → Nat → Nat) (O : Nat → Nat → Nat → Int32) (g : CSt) (ln un nx pl : Nat) (f0 f1 f2 : Nat → Int32) (z : Int32) (e0 : Int32) (e1 : Int32) (e2 : Int32) (e3 : Int32) (N : Nat) (K : Nat) (C : Nat) (nt : Nat) (hOI : OI (O 0) N K C nt) (sz : Nat) : Met l yL_call wsL_call ({ frames := 10, cells := 4, slots := 24, locals := 215 } : Room) (va_Pc [.ref (v 0), .int (18), .int (z), .int (e0), .int (e1), .int (e2), .int (e3)] (LWP D T aK aV (WIN T v B O g ln un nx pl f0 f1 f2) sz)) (va_Qi (fun r9 (_ : Unit) => r9 = kE ((O 0) 1 (z.toNatClampNeg % C)) (chkB (rg z 0 2000) "java/lang/IllegalArgumentException")) (fun _ t => QS D T (va_A (WIN T v B O g ln un nx pl f0 f1 f2) sz) (WIN T v B O g ln un nx pl f0 f1 f2) t) (va_A (WIN T v B O g ln un nx pl f0 f1 f2) sz)) 4 24 (va_A (WIN T v B O g ln un nx pl f0 f1 f2) sz) := by
  refine metLi (cc := cL_call) (maxL := 8) (by decide) rfl (Nat.le_of_ble_eq_true rfl) ?_
  intro p e s m args below meth c Q ls A hx hb hml hown hts htab hNC hC hP hK hD hA hS hl hret
  have hown : s.vm.findClass RL = some m.cls := hown
  have hl : lv_has ls 8 [(0, .ref (v 0)), (1, .int (18)), (2, .int (z)), (3, .int (e0)), (4, .int (e1)), (5, .int (e2)), (6, .int (e3))] := hl
  have w151 := hts (Cond.classLink RL 151 "java/util/NoSuchElementException") (List.mem_cons_of_mem _ (gT_of mw_646 rfl))
  have w155 := hts (Cond.classLink RL 155 "java/lang/IllegalStateException") (List.mem_cons_of_mem _ (gT_of mw_1186 rfl))
  have w157 := hts (Cond.classLink RL 157 "java/lang/IllegalArgumentException") (List.mem_cons_of_mem _ (gT_of mw_1187 rfl))
  have w159 := hts (Cond.classLink RL 159 "java/lang/IndexOutOfBoundsException") (List.mem_cons_of_mem _ (gT_of mw_1188 rfl))
  refine lv_iload_n hx hb dL_call_0 rfl (lv_at hl 1 rfl) ?_
  refine lv_tableIn (off := 309) (tgt := 310) hx hb dL_call_1 (by decide) (by decide) (by decide) (by decide) ?_
  refine lv_aload_n hx hb dL_call_310 rfl (lv_at hl 0 rfl) ?_
  refine lv_iload_n hx hb dL_call_311 rfl (lv_at hl 2 rfl) ?_
  refine wxVi (As := [.int (z)]) (rest := []) ⟨hx, hb, hml, hown, hts⟩ (c_X9_cloudOf l hl9 D T aK aV v B O g ln un nx pl f0 f1 f2 z N K C nt hOI _) (cwV 1 hts (gC gl_X9_cloudOf) rfl rfl rfl (by decide +kernel) ⟨Nat.le_of_ble_eq_true rfl, Nat.le_of_ble_eq_true rfl⟩) (Foc.rfl _ _) (Foc.rfl _ _) hC hK hP hD hS hA 0 rfl rfl rfl hl.1 rfl (Nat.le_of_ble_eq_true rfl) ⟨Nat.le_of_ble_eq_true rfl, Nat.le_of_ble_eq_true rfl⟩ dL_call_312 (fun E ce q9 H locs hE hP hD hS hce hcv hcl => ?_) (fun H locs hE hP hD hS => ?_)
  ·
    have hEx : E = "java/lang/IllegalArgumentException" := (one_chk (P := fun E => E = "java/lang/IllegalArgumentException") (rfl)) E hE
    subst hEx
    refine catL hown htab hNC hC.2.2.2.2 w151 w155 w157 w159 108 (310, 315, 529, 157) rfl rfl (by decide) (by decide +kernel) hce hcv hcl ?_
    refine lv_astore (lv' := [(7, .ref (q9)), (0, .ref (v 0)), (1, .int (18)), (2, .int (z)), (3, .int (e0)), (4, .int (e1)), (5, .int (e2)), (6, .int (e3))]) hx hb dL_call_529 hl (by decide) rfl (fun ls hl => ?_)
    refine lv_bipush (v := -103) hx hb dL_call_531 (by decide) ?_
    refine endI (r := kE ((O 0) 1 (z.toNatClampNeg % C)) (chkB (rg z 0 2000) "java/lang/IllegalArgumentException")) (by rw [hE]; rfl) ?_
    exact hret _ _ _ _ _ _ dL_call_533 hP hD hS (by decide) (by decide)
  ·
    have hE1 : kE ((O 0) 1 (z.toNatClampNeg % C)) (chkB (rg z 0 2000) "java/lang/IllegalArgumentException") = (O 0) 1 (z.toNatClampNeg % C) := by rw [hE]; rfl
    refine endI (r := kE ((O 0) 1 (z.toNatClampNeg % C)) (chkB (rg z 0 2000) "java/lang/IllegalArgumentException")) hE1.symm ?_
    exact hret _ _ _ _ _ _ dL_call_315 hP hD hS (by decide) (by decide)

set_option maxHeartbeats 4000000 in
set_option maxRecDepth 100000 in
theorem c_call_19 (l : Launch) (hl9 : l.stackTraces = false) (D : va_G) (T : Nat → ClassId) (aK aV : Nat → Nat) (v : Nat → Nat) (B : Nat → Nat → Nat) (O : Nat → Nat → Nat → Int32) (g : CSt) (ln un nx pl : Nat) (f0 f1 f2 : Nat → Int32) (z : Int32) (e0 : Int32) (e1 : Int32) (e2 : Int32) (e3 : Int32) (N : Nat) (K : Nat) (C : Nat) (nt : Nat) (hOI : OI (O 0) N K C nt) (sz : Nat) : Met l yL_call wsL_call ({ frames := 10, cells := 4, slots := 24, locals := 215 } : Room) (va_Pc [.ref (v 0), .int (19), .int (z), .int (e0), .int (e1), .int (e2), .int (e3)] (LWP D T aK aV (WIN T v B O g ln un nx pl f0 f1 f2) sz)) (va_Qi (fun r9 (_ : Unit) => r9 = kE (visI z.toNatClampNeg ((O 0) 1 (z.toNatClampNeg % C))) (chkB (rg z 0 2000) "java/lang/IllegalArgumentException")) (fun _ t => QS D T (va_A (WIN T v B O g ln un nx pl f0 f1 f2) sz) (WIN T v B O g ln un nx pl f0 f1 f2) t) (va_A (WIN T v B O g ln un nx pl f0 f1 f2) sz)) 4 24 (va_A (WIN T v B O g ln un nx pl f0 f1 f2) sz) := by
  refine metLi (cc := cL_call) (maxL := 8) (by decide) rfl (Nat.le_of_ble_eq_true rfl) ?_
  intro p e s m args below meth c Q ls A hx hb hml hown hts htab hNC hC hP hK hD hA hS hl hret
  have hown : s.vm.findClass RL = some m.cls := hown
  have hl : lv_has ls 8 [(0, .ref (v 0)), (1, .int (19)), (2, .int (z)), (3, .int (e0)), (4, .int (e1)), (5, .int (e2)), (6, .int (e3))] := hl
  have w151 := hts (Cond.classLink RL 151 "java/util/NoSuchElementException") (List.mem_cons_of_mem _ (gT_of mw_646 rfl))
  have w155 := hts (Cond.classLink RL 155 "java/lang/IllegalStateException") (List.mem_cons_of_mem _ (gT_of mw_1186 rfl))
  have w157 := hts (Cond.classLink RL 157 "java/lang/IllegalArgumentException") (List.mem_cons_of_mem _ (gT_of mw_1187 rfl))
  have w159 := hts (Cond.classLink RL 159 "java/lang/IndexOutOfBoundsException") (List.mem_cons_of_mem _ (gT_of mw_1188 rfl))
  refine lv_iload_n hx hb dL_call_0 rfl (lv_at hl 1 rfl) ?_
  refine lv_tableIn (off := 315) (tgt := 316) hx hb dL_call_1 (by decide) (by decide) (by decide) (by decide) ?_
  refine lv_aload_n hx hb dL_call_316 rfl (lv_at hl 0 rfl) ?_
  refine lv_iload_n hx hb dL_call_317 rfl (lv_at hl 2 rfl) ?_
  refine wxVi (As := [.int (z)]) (rest := []) ⟨hx, hb, hml, hown, hts⟩ (c_X9_visibleLight l hl9 D T aK aV v B O g ln un nx pl f0 f1 f2 z N K C nt hOI _) (cwV 1 hts (gC gl_X9_visibleLight) rfl rfl rfl (by decide +kernel) ⟨Nat.le_of_ble_eq_true rfl, Nat.le_of_ble_eq_true rfl⟩) (Foc.rfl _ _) (Foc.rfl _ _) hC hK hP hD hS hA 0 rfl rfl rfl hl.1 rfl (Nat.le_of_ble_eq_true rfl) ⟨Nat.le_of_ble_eq_true rfl, Nat.le_of_ble_eq_true rfl⟩ dL_call_318 (fun E ce q9 H locs hE hP hD hS hce hcv hcl => ?_) (fun H locs hE hP hD hS => ?_)
  ·
    have hEx : E = "java/lang/IllegalArgumentException" := (one_chk (P := fun E => E = "java/lang/IllegalArgumentException") (rfl)) E hE
    subst hEx
    refine catL hown htab hNC hC.2.2.2.2 w151 w155 w157 w159 109 (316, 321, 529, 157) rfl rfl (by decide) (by decide +kernel) hce hcv hcl ?_
    refine lv_astore (lv' := [(7, .ref (q9)), (0, .ref (v 0)), (1, .int (19)), (2, .int (z)), (3, .int (e0)), (4, .int (e1)), (5, .int (e2)), (6, .int (e3))]) hx hb dL_call_529 hl (by decide) rfl (fun ls hl => ?_)
    refine lv_bipush (v := -103) hx hb dL_call_531 (by decide) ?_
    refine endI (r := kE (visI z.toNatClampNeg ((O 0) 1 (z.toNatClampNeg % C))) (chkB (rg z 0 2000) "java/lang/IllegalArgumentException")) (by rw [hE]; rfl) ?_
    exact hret _ _ _ _ _ _ dL_call_533 hP hD hS (by decide) (by decide)
  ·
    have hE1 : kE (visI z.toNatClampNeg ((O 0) 1 (z.toNatClampNeg % C))) (chkB (rg z 0 2000) "java/lang/IllegalArgumentException") = visI z.toNatClampNeg ((O 0) 1 (z.toNatClampNeg % C)) := by rw [hE]; rfl
    refine endI (r := kE (visI z.toNatClampNeg ((O 0) 1 (z.toNatClampNeg % C))) (chkB (rg z 0 2000) "java/lang/IllegalArgumentException")) hE1.symm ?_
    exact hret _ _ _ _ _ _ dL_call_321 hP hD hS (by decide) (by decide)

set_option maxHeartbeats 4000000 in
set_option maxRecDepth 100000 in
theorem c_call_20 (l : Launch) (hl9 : l.stackTraces = false) (D : va_G) (T : Nat → ClassId) (aK aV : Nat → Nat) (v : Nat → Nat) (B : Nat → Nat → Nat) (O : Nat → Nat → Nat → Int32) (g : CSt) (ln un nx pl : Nat) (f0 f1 f2 : Nat → Int32) (z : Int32) (z1 : Int32) (e0 : Int32) (e1 : Int32) (e2 : Int32) (N : Nat) (K : Nat) (C : Nat) (nt : Nat) (hOI : OI (O 0) N K C nt) (sz : Nat) : Met l yL_call wsL_call ({ frames := 10, cells := 4, slots := 24, locals := 215 } : Room) (va_Pc [.ref (v 0), .int (20), .int (z), .int (z1), .int (e0), .int (e1), .int (e2)] (LWP D T aK aV (WIN T v B O g ln un nx pl f0 f1 f2) sz)) (va_Qi (fun r9 (_ : Unit) => r9 = kE (bI (justB z.toNatClampNeg ((O 0) 0 1) ((O 0) 0 2) ((O 0) 0 3) z1.toNatClampNeg ((O 0) 1 (z1.toNatClampNeg % C)))) (orE (chkB (rg z 0 3) "java/lang/IllegalArgumentException") (chkB (rg z1 0 2000) "java/lang/IllegalArgumentException"))) (fun _ t => QS D T (va_A (WIN T v B O g ln un nx pl f0 f1 f2) sz) (WIN T v B O g ln un nx pl f0 f1 f2) t) (va_A (WIN T v B O g ln un nx pl f0 f1 f2) sz)) 4 24 (va_A (WIN T v B O g ln un nx pl f0 f1 f2) sz) := by
  refine metLi (cc := cL_call) (maxL := 8) (by decide) rfl (Nat.le_of_ble_eq_true rfl) ?_
  intro p e s m args below meth c Q ls A hx hb hml hown hts htab hNC hC hP hK hD hA hS hl hret
  have hown : s.vm.findClass RL = some m.cls := hown
  have hl : lv_has ls 8 [(0, .ref (v 0)), (1, .int (20)), (2, .int (z)), (3, .int (z1)), (4, .int (e0)), (5, .int (e1)), (6, .int (e2))] := hl
  have w151 := hts (Cond.classLink RL 151 "java/util/NoSuchElementException") (List.mem_cons_of_mem _ (gT_of mw_646 rfl))
  have w155 := hts (Cond.classLink RL 155 "java/lang/IllegalStateException") (List.mem_cons_of_mem _ (gT_of mw_1186 rfl))
  have w157 := hts (Cond.classLink RL 157 "java/lang/IllegalArgumentException") (List.mem_cons_of_mem _ (gT_of mw_1187 rfl))
  have w159 := hts (Cond.classLink RL 159 "java/lang/IndexOutOfBoundsException") (List.mem_cons_of_mem _ (gT_of mw_1188 rfl))
  refine lv_iload_n hx hb dL_call_0 rfl (lv_at hl 1 rfl) ?_
  refine lv_tableIn (off := 321) (tgt := 322) hx hb dL_call_1 (by decide) (by decide) (by decide) (by decide) ?_
  refine lv_aload_n hx hb dL_call_322 rfl (lv_at hl 0 rfl) ?_
  refine lv_iload_n hx hb dL_call_323 rfl (lv_at hl 2 rfl) ?_
  refine lv_iload_n hx hb dL_call_324 rfl (lv_at hl 3 rfl) ?_
  refine wxVi (As := [.int (z), .int (z1)]) (rest := []) ⟨hx, hb, hml, hown, hts⟩ (c_X9_isJustified l hl9 D T aK aV v B O g ln un nx pl f0 f1 f2 z z1 N K C nt hOI _) (cwV 2 hts (gC gl_X9_isJustified) rfl rfl rfl (by decide +kernel) ⟨Nat.le_of_ble_eq_true rfl, Nat.le_of_ble_eq_true rfl⟩) (Foc.rfl _ _) (Foc.rfl _ _) hC hK hP hD hS hA 0 rfl rfl rfl hl.1 rfl (Nat.le_of_ble_eq_true rfl) ⟨Nat.le_of_ble_eq_true rfl, Nat.le_of_ble_eq_true rfl⟩ dL_call_325 (fun E ce q9 H locs hE hP hD hS hce hcv hcl => ?_) (fun H locs hE hP hD hS => ?_)
  ·
    have hEx : E = "java/lang/IllegalArgumentException" := (one_or (one_chk (P := fun E => E = "java/lang/IllegalArgumentException") (rfl)) (one_chk (P := fun E => E = "java/lang/IllegalArgumentException") (rfl))) E hE
    subst hEx
    refine catL hown htab hNC hC.2.2.2.2 w151 w155 w157 w159 110 (322, 336, 529, 157) rfl rfl (by decide) (by decide +kernel) hce hcv hcl ?_
    refine lv_astore (lv' := [(7, .ref (q9)), (0, .ref (v 0)), (1, .int (20)), (2, .int (z)), (3, .int (z1)), (4, .int (e0)), (5, .int (e1)), (6, .int (e2))]) hx hb dL_call_529 hl (by decide) rfl (fun ls hl => ?_)
    refine lv_bipush (v := -103) hx hb dL_call_531 (by decide) ?_
    refine endI (r := kE (bI (justB z.toNatClampNeg ((O 0) 0 1) ((O 0) 0 2) ((O 0) 0 3) z1.toNatClampNeg ((O 0) 1 (z1.toNatClampNeg % C)))) (orE (chkB (rg z 0 3) "java/lang/IllegalArgumentException") (chkB (rg z1 0 2000) "java/lang/IllegalArgumentException"))) (by rw [hE]; rfl) ?_
    exact hret _ _ _ _ _ _ dL_call_533 hP hD hS (by decide) (by decide)
  ·
    have hE1 : kE (bI (justB z.toNatClampNeg ((O 0) 0 1) ((O 0) 0 2) ((O 0) 0 3) z1.toNatClampNeg ((O 0) 1 (z1.toNatClampNeg % C)))) (orE (chkB (rg z 0 3) "java/lang/IllegalArgumentException") (chkB (rg z1 0 2000) "java/lang/IllegalArgumentException")) = bI (justB z.toNatClampNeg ((O 0) 0 1) ((O 0) 0 2) ((O 0) 0 3) z1.toNatClampNeg ((O 0) 1 (z1.toNatClampNeg % C))) := by rw [hE]; rfl
    refine lv_if_eq (tgt := 335) hx hb dL_call_328 (by decide) (fun cb => ?_) (fun cb => ?_)
    ·
      refine lv_iconst (v := 0) hx hb dL_call_335 (by decide) ?_
      refine endI (r := kE (bI (justB z.toNatClampNeg ((O 0) 0 1) ((O 0) 0 2) ((O 0) 0 3) z1.toNatClampNeg ((O 0) 1 (z1.toNatClampNeg % C)))) (orE (chkB (rg z 0 3) "java/lang/IllegalArgumentException") (chkB (rg z1 0 2000) "java/lang/IllegalArgumentException"))) (by rw [hE1]; exact cb.symm) ?_
      exact hret _ _ _ _ _ _ dL_call_336 hP hD hS (by decide) (by decide)
    ·
      refine lv_iconst (v := 1) hx hb dL_call_331 (by decide) ?_
      refine lv_goto (tgt := 336) hx hb dL_call_332 (by decide) ?_
      refine endI (r := kE (bI (justB z.toNatClampNeg ((O 0) 0 1) ((O 0) 0 2) ((O 0) 0 3) z1.toNatClampNeg ((O 0) 1 (z1.toNatClampNeg % C)))) (orE (chkB (rg z 0 3) "java/lang/IllegalArgumentException") (chkB (rg z1 0 2000) "java/lang/IllegalArgumentException"))) (by rw [hE1, bI_n0.mp cb]; rfl) ?_
      exact hret _ _ _ _ _ _ dL_call_336 hP hD hS (by decide) (by decide)

set_option maxHeartbeats 4000000 in
set_option maxRecDepth 100000 in
theorem c_call_21 (l : Launch) (hl9 : l.stackTraces = false) (D : va_G) (T : Nat → ClassId) (aK aV : Nat → Nat) (v : Nat → Nat) (B : Nat → Nat → Nat) (O : Nat → Nat → Nat → Int32) (g : CSt) (ln un nx pl : Nat) (f0 f1 f2 : Nat → Int32) (z : Int32) (e0 : Int32) (e1 : Int32) (e2 : Int32) (e3 : Int32) (N : Nat) (K : Nat) (C : Nat) (nt : Nat) (hOI : OI (O 0) N K C nt) (sz : Nat) : Met l yL_call wsL_call ({ frames := 10, cells := 4, slots := 24, locals := 215 } : Room) (va_Pc [.ref (v 0), .int (21), .int (z), .int (e0), .int (e1), .int (e2), .int (e3)] (LWP D T aK aV (WIN T v B O g ln un nx pl f0 f1 f2) sz)) (va_Qi (fun r9 (_ : Unit) => r9 = kE ((nextC (O 0) C nt z.toNatClampNeg).elim 0 nI) (orE (chkB (rg z 0 3) "java/lang/IllegalArgumentException") (chkB ((nextC (O 0) C nt z.toNatClampNeg).isSome) "java/util/NoSuchElementException"))) (fun _ t => QS D T (va_A (WIN T v B O g ln un nx pl f0 f1 f2) sz) (WIN T v B O g ln un nx pl f0 f1 f2) t) (va_A (WIN T v B O g ln un nx pl f0 f1 f2) sz)) 4 24 (va_A (WIN T v B O g ln un nx pl f0 f1 f2) sz) := by
  refine metLi (cc := cL_call) (maxL := 8) (by decide) rfl (Nat.le_of_ble_eq_true rfl) ?_
  intro p e s m args below meth c Q ls A hx hb hml hown hts htab hNC hC hP hK hD hA hS hl hret
  have hown : s.vm.findClass RL = some m.cls := hown
  have hl : lv_has ls 8 [(0, .ref (v 0)), (1, .int (21)), (2, .int (z)), (3, .int (e0)), (4, .int (e1)), (5, .int (e2)), (6, .int (e3))] := hl
  have w151 := hts (Cond.classLink RL 151 "java/util/NoSuchElementException") (List.mem_cons_of_mem _ (gT_of mw_646 rfl))
  have w155 := hts (Cond.classLink RL 155 "java/lang/IllegalStateException") (List.mem_cons_of_mem _ (gT_of mw_1186 rfl))
  have w157 := hts (Cond.classLink RL 157 "java/lang/IllegalArgumentException") (List.mem_cons_of_mem _ (gT_of mw_1187 rfl))
  have w159 := hts (Cond.classLink RL 159 "java/lang/IndexOutOfBoundsException") (List.mem_cons_of_mem _ (gT_of mw_1188 rfl))
  refine lv_iload_n hx hb dL_call_0 rfl (lv_at hl 1 rfl) ?_
  refine lv_tableIn (off := 336) (tgt := 337) hx hb dL_call_1 (by decide) (by decide) (by decide) (by decide) ?_
  refine lv_aload_n hx hb dL_call_337 rfl (lv_at hl 0 rfl) ?_
  refine lv_iload_n hx hb dL_call_338 rfl (lv_at hl 2 rfl) ?_
  refine wxVi (As := [.int (z)]) (rest := []) ⟨hx, hb, hml, hown, hts⟩ (c_X9_nextJustified l hl9 D T aK aV v B O g ln un nx pl f0 f1 f2 z N K C nt hOI _) (cwV 1 hts (gC gl_X9_nextJustified) rfl rfl rfl (by decide +kernel) ⟨Nat.le_of_ble_eq_true rfl, Nat.le_of_ble_eq_true rfl⟩) (Foc.rfl _ _) (Foc.rfl _ _) hC hK hP hD hS hA 0 rfl rfl rfl hl.1 rfl (Nat.le_of_ble_eq_true rfl) ⟨Nat.le_of_ble_eq_true rfl, Nat.le_of_ble_eq_true rfl⟩ dL_call_339 (fun E ce q9 H locs hE hP hD hS hce hcv hcl => ?_) (fun H locs hE hP hD hS => ?_)
  ·
    have hEx : E = "java/util/NoSuchElementException" ∨ E = "java/lang/IllegalArgumentException" := (one_or (one_chk (P := fun E => E = "java/util/NoSuchElementException" ∨ E = "java/lang/IllegalArgumentException") (Or.inr (rfl))) (one_chk (P := fun E => E = "java/util/NoSuchElementException" ∨ E = "java/lang/IllegalArgumentException") (Or.inl rfl))) E hE
    rcases hEx with rfl | hEx
    ·
      refine catL hown htab hNC hC.2.2.2.2 w151 w155 w157 w159 21 (337, 342, 519, 151) rfl rfl (by decide) (by decide +kernel) hce hcv hcl ?_
      refine lv_astore (lv' := [(7, .ref (q9)), (0, .ref (v 0)), (1, .int (21)), (2, .int (z)), (3, .int (e0)), (4, .int (e1)), (5, .int (e2)), (6, .int (e3))]) hx hb dL_call_519 hl (by decide) rfl (fun ls hl => ?_)
      refine lv_bipush (v := -101) hx hb dL_call_521 (by decide) ?_
      refine endI (r := kE ((nextC (O 0) C nt z.toNatClampNeg).elim 0 nI) (orE (chkB (rg z 0 3) "java/lang/IllegalArgumentException") (chkB ((nextC (O 0) C nt z.toNatClampNeg).isSome) "java/util/NoSuchElementException"))) (by rw [hE]; rfl) ?_
      exact hret _ _ _ _ _ _ dL_call_523 hP hD hS (by decide) (by decide)
    ·
      subst hEx
      refine catL hown htab hNC hC.2.2.2.2 w151 w155 w157 w159 111 (337, 342, 529, 157) rfl rfl (by decide) (by decide +kernel) hce hcv hcl ?_
      refine lv_astore (lv' := [(7, .ref (q9)), (0, .ref (v 0)), (1, .int (21)), (2, .int (z)), (3, .int (e0)), (4, .int (e1)), (5, .int (e2)), (6, .int (e3))]) hx hb dL_call_529 hl (by decide) rfl (fun ls hl => ?_)
      refine lv_bipush (v := -103) hx hb dL_call_531 (by decide) ?_
      refine endI (r := kE ((nextC (O 0) C nt z.toNatClampNeg).elim 0 nI) (orE (chkB (rg z 0 3) "java/lang/IllegalArgumentException") (chkB ((nextC (O 0) C nt z.toNatClampNeg).isSome) "java/util/NoSuchElementException"))) (by rw [hE]; rfl) ?_
      exact hret _ _ _ _ _ _ dL_call_533 hP hD hS (by decide) (by decide)
  ·
    have hE1 : kE ((nextC (O 0) C nt z.toNatClampNeg).elim 0 nI) (orE (chkB (rg z 0 3) "java/lang/IllegalArgumentException") (chkB ((nextC (O 0) C nt z.toNatClampNeg).isSome) "java/util/NoSuchElementException")) = (nextC (O 0) C nt z.toNatClampNeg).elim 0 nI := by rw [hE]; rfl
    refine endI (r := kE ((nextC (O 0) C nt z.toNatClampNeg).elim 0 nI) (orE (chkB (rg z 0 3) "java/lang/IllegalArgumentException") (chkB ((nextC (O 0) C nt z.toNatClampNeg).isSome) "java/util/NoSuchElementException"))) hE1.symm ?_
    exact hret _ _ _ _ _ _ dL_call_342 hP hD hS (by decide) (by decide)

set_option maxHeartbeats 4000000 in
set_option maxRecDepth 100000 in
theorem c_call_22 (l : Launch) (hl9 : l.stackTraces = false) (D : va_G) (T : Nat → ClassId) (aK aV : Nat → Nat) (v : Nat → Nat) (B : Nat → Nat → Nat) (O : Nat → Nat → Nat → Int32) (g : CSt) (ln un nx pl : Nat) (f0 f1 f2 : Nat → Int32) (z : Int32) (e0 : Int32) (e1 : Int32) (e2 : Int32) (e3 : Int32) (N : Nat) (K : Nat) (C : Nat) (nt : Nat) (hOI : OI (O 0) N K C nt) (sz : Nat) : Met l yL_call wsL_call ({ frames := 10, cells := 4, slots := 24, locals := 215 } : Room) (va_Pc [.ref (v 0), .int (22), .int (z), .int (e0), .int (e1), .int (e2), .int (e3)] (LWP D T aK aV (WIN T v B O g ln un nx pl f0 f1 f2) sz)) (va_Qi (fun r9 (_ : Unit) => r9 = kE (jcC (O 0) C nt z.toNatClampNeg) (chkB (rg z 0 3) "java/lang/IllegalArgumentException")) (fun _ t => QS D T (va_A (WIN T v B O g ln un nx pl f0 f1 f2) sz) (WIN T v B O g ln un nx pl f0 f1 f2) t) (va_A (WIN T v B O g ln un nx pl f0 f1 f2) sz)) 4 24 (va_A (WIN T v B O g ln un nx pl f0 f1 f2) sz) := by
  refine metLi (cc := cL_call) (maxL := 8) (by decide) rfl (Nat.le_of_ble_eq_true rfl) ?_
  intro p e s m args below meth c Q ls A hx hb hml hown hts htab hNC hC hP hK hD hA hS hl hret
  have hown : s.vm.findClass RL = some m.cls := hown
  have hl : lv_has ls 8 [(0, .ref (v 0)), (1, .int (22)), (2, .int (z)), (3, .int (e0)), (4, .int (e1)), (5, .int (e2)), (6, .int (e3))] := hl
  have w151 := hts (Cond.classLink RL 151 "java/util/NoSuchElementException") (List.mem_cons_of_mem _ (gT_of mw_646 rfl))
  have w155 := hts (Cond.classLink RL 155 "java/lang/IllegalStateException") (List.mem_cons_of_mem _ (gT_of mw_1186 rfl))
  have w157 := hts (Cond.classLink RL 157 "java/lang/IllegalArgumentException") (List.mem_cons_of_mem _ (gT_of mw_1187 rfl))
  have w159 := hts (Cond.classLink RL 159 "java/lang/IndexOutOfBoundsException") (List.mem_cons_of_mem _ (gT_of mw_1188 rfl))
  refine lv_iload_n hx hb dL_call_0 rfl (lv_at hl 1 rfl) ?_
  refine lv_tableIn (off := 342) (tgt := 343) hx hb dL_call_1 (by decide) (by decide) (by decide) (by decide) ?_
  refine lv_aload_n hx hb dL_call_343 rfl (lv_at hl 0 rfl) ?_
  refine lv_iload_n hx hb dL_call_344 rfl (lv_at hl 2 rfl) ?_
  refine wxVi (As := [.int (z)]) (rest := []) ⟨hx, hb, hml, hown, hts⟩ (c_X9_justifiedNights l hl9 D T aK aV v B O g ln un nx pl f0 f1 f2 z N K C nt hOI _) (cwV 1 hts (gC gl_X9_justifiedNights) rfl rfl rfl (by decide +kernel) ⟨Nat.le_of_ble_eq_true rfl, Nat.le_of_ble_eq_true rfl⟩) (Foc.rfl _ _) (Foc.rfl _ _) hC hK hP hD hS hA 0 rfl rfl rfl hl.1 rfl (Nat.le_of_ble_eq_true rfl) ⟨Nat.le_of_ble_eq_true rfl, Nat.le_of_ble_eq_true rfl⟩ dL_call_345 (fun E ce q9 H locs hE hP hD hS hce hcv hcl => ?_) (fun H locs hE hP hD hS => ?_)
  ·
    have hEx : E = "java/lang/IllegalArgumentException" := (one_chk (P := fun E => E = "java/lang/IllegalArgumentException") (rfl)) E hE
    subst hEx
    refine catL hown htab hNC hC.2.2.2.2 w151 w155 w157 w159 112 (343, 348, 529, 157) rfl rfl (by decide) (by decide +kernel) hce hcv hcl ?_
    refine lv_astore (lv' := [(7, .ref (q9)), (0, .ref (v 0)), (1, .int (22)), (2, .int (z)), (3, .int (e0)), (4, .int (e1)), (5, .int (e2)), (6, .int (e3))]) hx hb dL_call_529 hl (by decide) rfl (fun ls hl => ?_)
    refine lv_bipush (v := -103) hx hb dL_call_531 (by decide) ?_
    refine endI (r := kE (jcC (O 0) C nt z.toNatClampNeg) (chkB (rg z 0 3) "java/lang/IllegalArgumentException")) (by rw [hE]; rfl) ?_
    exact hret _ _ _ _ _ _ dL_call_533 hP hD hS (by decide) (by decide)
  ·
    have hE1 : kE (jcC (O 0) C nt z.toNatClampNeg) (chkB (rg z 0 3) "java/lang/IllegalArgumentException") = jcC (O 0) C nt z.toNatClampNeg := by rw [hE]; rfl
    refine endI (r := kE (jcC (O 0) C nt z.toNatClampNeg) (chkB (rg z 0 3) "java/lang/IllegalArgumentException")) hE1.symm ?_
    exact hret _ _ _ _ _ _ dL_call_348 hP hD hS (by decide) (by decide)

set_option maxHeartbeats 4000000 in
set_option maxRecDepth 100000 in
theorem c_call_23 (l : Launch) (hl9 : l.stackTraces = false) (D : va_G) (T : Nat → ClassId) (aK aV : Nat → Nat) (v : Nat → Nat) (B : Nat → Nat → Nat) (O : Nat → Nat → Nat → Int32) (g : CSt) (ln un nx pl : Nat) (f0 f1 f2 : Nat → Int32) (z : Int32) (e0 : Int32) (e1 : Int32) (e2 : Int32) (e3 : Int32) (N : Nat) (K : Nat) (C : Nat) (nt : Nat) (hOI : OI (O 0) N K C nt) (sz : Nat) : Met l yL_call wsL_call ({ frames := 10, cells := 4, slots := 24, locals := 215 } : Room) (va_Pc [.ref (v 0), .int (23), .int (z), .int (e0), .int (e1), .int (e2), .int (e3)] (LWP D T aK aV (WIN T v B O g ln un nx pl f0 f1 f2) sz)) (va_Qi (fun r9 (_ : Unit) => r9 = kE ((O 0) 4 z.toNatClampNeg) (chkB (inN z N) "java/lang/IndexOutOfBoundsException")) (fun _ t => QS D T (va_A (WIN T v B O g ln un nx pl f0 f1 f2) sz) (WIN T v B O g ln un nx pl f0 f1 f2) t) (va_A (WIN T v B O g ln un nx pl f0 f1 f2) sz)) 4 24 (va_A (WIN T v B O g ln un nx pl f0 f1 f2) sz) := by
  refine metLi (cc := cL_call) (maxL := 8) (by decide) rfl (Nat.le_of_ble_eq_true rfl) ?_
  intro p e s m args below meth c Q ls A hx hb hml hown hts htab hNC hC hP hK hD hA hS hl hret
  have hown : s.vm.findClass RL = some m.cls := hown
  have hl : lv_has ls 8 [(0, .ref (v 0)), (1, .int (23)), (2, .int (z)), (3, .int (e0)), (4, .int (e1)), (5, .int (e2)), (6, .int (e3))] := hl
  have w151 := hts (Cond.classLink RL 151 "java/util/NoSuchElementException") (List.mem_cons_of_mem _ (gT_of mw_646 rfl))
  have w155 := hts (Cond.classLink RL 155 "java/lang/IllegalStateException") (List.mem_cons_of_mem _ (gT_of mw_1186 rfl))
  have w157 := hts (Cond.classLink RL 157 "java/lang/IllegalArgumentException") (List.mem_cons_of_mem _ (gT_of mw_1187 rfl))
  have w159 := hts (Cond.classLink RL 159 "java/lang/IndexOutOfBoundsException") (List.mem_cons_of_mem _ (gT_of mw_1188 rfl))
  refine lv_iload_n hx hb dL_call_0 rfl (lv_at hl 1 rfl) ?_
  refine lv_tableIn (off := 348) (tgt := 349) hx hb dL_call_1 (by decide) (by decide) (by decide) (by decide) ?_
  refine lv_aload_n hx hb dL_call_349 rfl (lv_at hl 0 rfl) ?_
  refine lv_iload_n hx hb dL_call_350 rfl (lv_at hl 2 rfl) ?_
  refine wxVi (As := [.int (z)]) (rest := []) ⟨hx, hb, hml, hown, hts⟩ (c_X9_personOf l hl9 D T aK aV v B O g ln un nx pl f0 f1 f2 z N K C nt hOI _) (cwV 1 hts (gC gl_X9_personOf) rfl rfl rfl (by decide +kernel) ⟨Nat.le_of_ble_eq_true rfl, Nat.le_of_ble_eq_true rfl⟩) (Foc.rfl _ _) (Foc.rfl _ _) hC hK hP hD hS hA 0 rfl rfl rfl hl.1 rfl (Nat.le_of_ble_eq_true rfl) ⟨Nat.le_of_ble_eq_true rfl, Nat.le_of_ble_eq_true rfl⟩ dL_call_351 (fun E ce q9 H locs hE hP hD hS hce hcv hcl => ?_) (fun H locs hE hP hD hS => ?_)
  ·
    have hEx : E = "java/lang/IndexOutOfBoundsException" := (one_chk (P := fun E => E = "java/lang/IndexOutOfBoundsException") (rfl)) E hE
    subst hEx
    refine catL hown htab hNC hC.2.2.2.2 w151 w155 w157 w159 158 (349, 354, 534, 159) rfl rfl (by decide) (by decide +kernel) hce hcv hcl ?_
    refine lv_astore (lv' := [(7, .ref (q9)), (0, .ref (v 0)), (1, .int (23)), (2, .int (z)), (3, .int (e0)), (4, .int (e1)), (5, .int (e2)), (6, .int (e3))]) hx hb dL_call_534 hl (by decide) rfl (fun ls hl => ?_)
    refine lv_bipush (v := -104) hx hb dL_call_536 (by decide) ?_
    refine endI (r := kE ((O 0) 4 z.toNatClampNeg) (chkB (inN z N) "java/lang/IndexOutOfBoundsException")) (by rw [hE]; rfl) ?_
    exact hret _ _ _ _ _ _ dL_call_538 hP hD hS (by decide) (by decide)
  ·
    have hE1 : kE ((O 0) 4 z.toNatClampNeg) (chkB (inN z N) "java/lang/IndexOutOfBoundsException") = (O 0) 4 z.toNatClampNeg := by rw [hE]; rfl
    refine endI (r := kE ((O 0) 4 z.toNatClampNeg) (chkB (inN z N) "java/lang/IndexOutOfBoundsException")) hE1.symm ?_
    exact hret _ _ _ _ _ _ dL_call_354 hP hD hS (by decide) (by decide)

set_option maxHeartbeats 4000000 in
set_option maxRecDepth 100000 in
theorem c_call_24 (l : Launch) (hl9 : l.stackTraces = false) (D : va_G) (T : Nat → ClassId) (aK aV : Nat → Nat) (v : Nat → Nat) (B : Nat → Nat → Nat) (O : Nat → Nat → Nat → Int32) (g : CSt) (ln un nx pl : Nat) (f0 f1 f2 : Nat → Int32) (z : Int32) (e0 : Int32) (e1 : Int32) (e2 : Int32) (e3 : Int32) (N : Nat) (K : Nat) (C : Nat) (nt : Nat) (hOI : OI (O 0) N K C nt) (sz : Nat) : Met l yL_call wsL_call ({ frames := 10, cells := 4, slots := 24, locals := 215 } : Room) (va_Pc [.ref (v 0), .int (24), .int (z), .int (e0), .int (e1), .int (e2), .int (e3)] (LWP D T aK aV (WIN T v B O g ln un nx pl f0 f1 f2) sz)) (va_Qi (fun r9 (_ : Unit) => r9 = kE ((O 0) 5 z.toNatClampNeg) (chkB (inN z N) "java/lang/IndexOutOfBoundsException")) (fun _ t => QS D T (va_A (WIN T v B O g ln un nx pl f0 f1 f2) sz) (WIN T v B O g ln un nx pl f0 f1 f2) t) (va_A (WIN T v B O g ln un nx pl f0 f1 f2) sz)) 4 24 (va_A (WIN T v B O g ln un nx pl f0 f1 f2) sz) := by
  refine metLi (cc := cL_call) (maxL := 8) (by decide) rfl (Nat.le_of_ble_eq_true rfl) ?_
  intro p e s m args below meth c Q ls A hx hb hml hown hts htab hNC hC hP hK hD hA hS hl hret
  have hown : s.vm.findClass RL = some m.cls := hown
  have hl : lv_has ls 8 [(0, .ref (v 0)), (1, .int (24)), (2, .int (z)), (3, .int (e0)), (4, .int (e1)), (5, .int (e2)), (6, .int (e3))] := hl
  have w151 := hts (Cond.classLink RL 151 "java/util/NoSuchElementException") (List.mem_cons_of_mem _ (gT_of mw_646 rfl))
  have w155 := hts (Cond.classLink RL 155 "java/lang/IllegalStateException") (List.mem_cons_of_mem _ (gT_of mw_1186 rfl))
  have w157 := hts (Cond.classLink RL 157 "java/lang/IllegalArgumentException") (List.mem_cons_of_mem _ (gT_of mw_1187 rfl))
  have w159 := hts (Cond.classLink RL 159 "java/lang/IndexOutOfBoundsException") (List.mem_cons_of_mem _ (gT_of mw_1188 rfl))
  refine lv_iload_n hx hb dL_call_0 rfl (lv_at hl 1 rfl) ?_
  refine lv_tableIn (off := 354) (tgt := 355) hx hb dL_call_1 (by decide) (by decide) (by decide) (by decide) ?_
  refine lv_aload_n hx hb dL_call_355 rfl (lv_at hl 0 rfl) ?_
  refine lv_iload_n hx hb dL_call_356 rfl (lv_at hl 2 rfl) ?_
  refine wxVi (As := [.int (z)]) (rest := []) ⟨hx, hb, hml, hown, hts⟩ (c_X9_sortOf l hl9 D T aK aV v B O g ln un nx pl f0 f1 f2 z N K C nt hOI _) (cwV 1 hts (gC gl_X9_sortOf) rfl rfl rfl (by decide +kernel) ⟨Nat.le_of_ble_eq_true rfl, Nat.le_of_ble_eq_true rfl⟩) (Foc.rfl _ _) (Foc.rfl _ _) hC hK hP hD hS hA 0 rfl rfl rfl hl.1 rfl (Nat.le_of_ble_eq_true rfl) ⟨Nat.le_of_ble_eq_true rfl, Nat.le_of_ble_eq_true rfl⟩ dL_call_357 (fun E ce q9 H locs hE hP hD hS hce hcv hcl => ?_) (fun H locs hE hP hD hS => ?_)
  ·
    have hEx : E = "java/lang/IndexOutOfBoundsException" := (one_chk (P := fun E => E = "java/lang/IndexOutOfBoundsException") (rfl)) E hE
    subst hEx
    refine catL hown htab hNC hC.2.2.2.2 w151 w155 w157 w159 159 (355, 360, 534, 159) rfl rfl (by decide) (by decide +kernel) hce hcv hcl ?_
    refine lv_astore (lv' := [(7, .ref (q9)), (0, .ref (v 0)), (1, .int (24)), (2, .int (z)), (3, .int (e0)), (4, .int (e1)), (5, .int (e2)), (6, .int (e3))]) hx hb dL_call_534 hl (by decide) rfl (fun ls hl => ?_)
    refine lv_bipush (v := -104) hx hb dL_call_536 (by decide) ?_
    refine endI (r := kE ((O 0) 5 z.toNatClampNeg) (chkB (inN z N) "java/lang/IndexOutOfBoundsException")) (by rw [hE]; rfl) ?_
    exact hret _ _ _ _ _ _ dL_call_538 hP hD hS (by decide) (by decide)
  ·
    have hE1 : kE ((O 0) 5 z.toNatClampNeg) (chkB (inN z N) "java/lang/IndexOutOfBoundsException") = (O 0) 5 z.toNatClampNeg := by rw [hE]; rfl
    refine endI (r := kE ((O 0) 5 z.toNatClampNeg) (chkB (inN z N) "java/lang/IndexOutOfBoundsException")) hE1.symm ?_
    exact hret _ _ _ _ _ _ dL_call_360 hP hD hS (by decide) (by decide)

set_option maxHeartbeats 4000000 in
set_option maxRecDepth 100000 in
theorem c_call_25 (l : Launch) (hl9 : l.stackTraces = false) (D : va_G) (T : Nat → ClassId) (aK aV : Nat → Nat) (v : Nat → Nat) (B : Nat → Nat → Nat) (O : Nat → Nat → Nat → Int32) (g : CSt) (ln un nx pl : Nat) (f0 f1 f2 : Nat → Int32) (z : Int32) (e0 : Int32) (e1 : Int32) (e2 : Int32) (e3 : Int32) (N : Nat) (K : Nat) (C : Nat) (nt : Nat) (hOI : OI (O 0) N K C nt) (sz : Nat) : Met l yL_call wsL_call ({ frames := 10, cells := 4, slots := 24, locals := 215 } : Room) (va_Pc [.ref (v 0), .int (25), .int (z), .int (e0), .int (e1), .int (e2), .int (e3)] (LWP D T aK aV (WIN T v B O g ln un nx pl f0 f1 f2) sz)) (va_Qi (fun r9 (_ : Unit) => r9 = kE ((O 0) 6 z.toNatClampNeg) (chkB (inN z N) "java/lang/IndexOutOfBoundsException")) (fun _ t => QS D T (va_A (WIN T v B O g ln un nx pl f0 f1 f2) sz) (WIN T v B O g ln un nx pl f0 f1 f2) t) (va_A (WIN T v B O g ln un nx pl f0 f1 f2) sz)) 4 24 (va_A (WIN T v B O g ln un nx pl f0 f1 f2) sz) := by
  refine metLi (cc := cL_call) (maxL := 8) (by decide) rfl (Nat.le_of_ble_eq_true rfl) ?_
  intro p e s m args below meth c Q ls A hx hb hml hown hts htab hNC hC hP hK hD hA hS hl hret
  have hown : s.vm.findClass RL = some m.cls := hown
  have hl : lv_has ls 8 [(0, .ref (v 0)), (1, .int (25)), (2, .int (z)), (3, .int (e0)), (4, .int (e1)), (5, .int (e2)), (6, .int (e3))] := hl
  have w151 := hts (Cond.classLink RL 151 "java/util/NoSuchElementException") (List.mem_cons_of_mem _ (gT_of mw_646 rfl))
  have w155 := hts (Cond.classLink RL 155 "java/lang/IllegalStateException") (List.mem_cons_of_mem _ (gT_of mw_1186 rfl))
  have w157 := hts (Cond.classLink RL 157 "java/lang/IllegalArgumentException") (List.mem_cons_of_mem _ (gT_of mw_1187 rfl))
  have w159 := hts (Cond.classLink RL 159 "java/lang/IndexOutOfBoundsException") (List.mem_cons_of_mem _ (gT_of mw_1188 rfl))
  refine lv_iload_n hx hb dL_call_0 rfl (lv_at hl 1 rfl) ?_
  refine lv_tableIn (off := 360) (tgt := 361) hx hb dL_call_1 (by decide) (by decide) (by decide) (by decide) ?_
  refine lv_aload_n hx hb dL_call_361 rfl (lv_at hl 0 rfl) ?_
  refine lv_iload_n hx hb dL_call_362 rfl (lv_at hl 2 rfl) ?_
  refine wxVi (As := [.int (z)]) (rest := []) ⟨hx, hb, hml, hown, hts⟩ (c_X9_angerOf l hl9 D T aK aV v B O g ln un nx pl f0 f1 f2 z N K C nt hOI _) (cwV 1 hts (gC gl_X9_angerOf) rfl rfl rfl (by decide +kernel) ⟨Nat.le_of_ble_eq_true rfl, Nat.le_of_ble_eq_true rfl⟩) (Foc.rfl _ _) (Foc.rfl _ _) hC hK hP hD hS hA 0 rfl rfl rfl hl.1 rfl (Nat.le_of_ble_eq_true rfl) ⟨Nat.le_of_ble_eq_true rfl, Nat.le_of_ble_eq_true rfl⟩ dL_call_363 (fun E ce q9 H locs hE hP hD hS hce hcv hcl => ?_) (fun H locs hE hP hD hS => ?_)
  ·
    have hEx : E = "java/lang/IndexOutOfBoundsException" := (one_chk (P := fun E => E = "java/lang/IndexOutOfBoundsException") (rfl)) E hE
    subst hEx
    refine catL hown htab hNC hC.2.2.2.2 w151 w155 w157 w159 160 (361, 366, 534, 159) rfl rfl (by decide) (by decide +kernel) hce hcv hcl ?_
    refine lv_astore (lv' := [(7, .ref (q9)), (0, .ref (v 0)), (1, .int (25)), (2, .int (z)), (3, .int (e0)), (4, .int (e1)), (5, .int (e2)), (6, .int (e3))]) hx hb dL_call_534 hl (by decide) rfl (fun ls hl => ?_)
    refine lv_bipush (v := -104) hx hb dL_call_536 (by decide) ?_
    refine endI (r := kE ((O 0) 6 z.toNatClampNeg) (chkB (inN z N) "java/lang/IndexOutOfBoundsException")) (by rw [hE]; rfl) ?_
    exact hret _ _ _ _ _ _ dL_call_538 hP hD hS (by decide) (by decide)
  ·
    have hE1 : kE ((O 0) 6 z.toNatClampNeg) (chkB (inN z N) "java/lang/IndexOutOfBoundsException") = (O 0) 6 z.toNatClampNeg := by rw [hE]; rfl
    refine endI (r := kE ((O 0) 6 z.toNatClampNeg) (chkB (inN z N) "java/lang/IndexOutOfBoundsException")) hE1.symm ?_
    exact hret _ _ _ _ _ _ dL_call_366 hP hD hS (by decide) (by decide)

set_option maxHeartbeats 4000000 in
set_option maxRecDepth 100000 in
theorem c_call_26 (l : Launch) (hl9 : l.stackTraces = false) (D : va_G) (T : Nat → ClassId) (aK aV : Nat → Nat) (v : Nat → Nat) (B : Nat → Nat → Nat) (O : Nat → Nat → Nat → Int32) (g : CSt) (ln un nx pl : Nat) (f0 f1 f2 : Nat → Int32) (z : Int32) (e0 : Int32) (e1 : Int32) (e2 : Int32) (e3 : Int32) (N : Nat) (K : Nat) (C : Nat) (nt : Nat) (hOI : OI (O 0) N K C nt) (sz : Nat) : Met l yL_call wsL_call ({ frames := 10, cells := 4, slots := 24, locals := 215 } : Room) (va_Pc [.ref (v 0), .int (26), .int (z), .int (e0), .int (e1), .int (e2), .int (e3)] (LWP D T aK aV (WIN T v B O g ln un nx pl f0 f1 f2) sz)) (va_Qi (fun r9 (_ : Unit) => r9 = kE ((O 0) 7 z.toNatClampNeg) (chkB (inN z N) "java/lang/IndexOutOfBoundsException")) (fun _ t => QS D T (va_A (WIN T v B O g ln un nx pl f0 f1 f2) sz) (WIN T v B O g ln un nx pl f0 f1 f2) t) (va_A (WIN T v B O g ln un nx pl f0 f1 f2) sz)) 4 24 (va_A (WIN T v B O g ln un nx pl f0 f1 f2) sz) := by
  refine metLi (cc := cL_call) (maxL := 8) (by decide) rfl (Nat.le_of_ble_eq_true rfl) ?_
  intro p e s m args below meth c Q ls A hx hb hml hown hts htab hNC hC hP hK hD hA hS hl hret
  have hown : s.vm.findClass RL = some m.cls := hown
  have hl : lv_has ls 8 [(0, .ref (v 0)), (1, .int (26)), (2, .int (z)), (3, .int (e0)), (4, .int (e1)), (5, .int (e2)), (6, .int (e3))] := hl
  have w151 := hts (Cond.classLink RL 151 "java/util/NoSuchElementException") (List.mem_cons_of_mem _ (gT_of mw_646 rfl))
  have w155 := hts (Cond.classLink RL 155 "java/lang/IllegalStateException") (List.mem_cons_of_mem _ (gT_of mw_1186 rfl))
  have w157 := hts (Cond.classLink RL 157 "java/lang/IllegalArgumentException") (List.mem_cons_of_mem _ (gT_of mw_1187 rfl))
  have w159 := hts (Cond.classLink RL 159 "java/lang/IndexOutOfBoundsException") (List.mem_cons_of_mem _ (gT_of mw_1188 rfl))
  refine lv_iload_n hx hb dL_call_0 rfl (lv_at hl 1 rfl) ?_
  refine lv_tableIn (off := 366) (tgt := 367) hx hb dL_call_1 (by decide) (by decide) (by decide) (by decide) ?_
  refine lv_aload_n hx hb dL_call_367 rfl (lv_at hl 0 rfl) ?_
  refine lv_iload_n hx hb dL_call_368 rfl (lv_at hl 2 rfl) ?_
  refine wxVi (As := [.int (z)]) (rest := []) ⟨hx, hb, hml, hown, hts⟩ (c_X9_filedIn l hl9 D T aK aV v B O g ln un nx pl f0 f1 f2 z N K C nt hOI _) (cwV 1 hts (gC gl_X9_filedIn) rfl rfl rfl (by decide +kernel) ⟨Nat.le_of_ble_eq_true rfl, Nat.le_of_ble_eq_true rfl⟩) (Foc.rfl _ _) (Foc.rfl _ _) hC hK hP hD hS hA 0 rfl rfl rfl hl.1 rfl (Nat.le_of_ble_eq_true rfl) ⟨Nat.le_of_ble_eq_true rfl, Nat.le_of_ble_eq_true rfl⟩ dL_call_369 (fun E ce q9 H locs hE hP hD hS hce hcv hcl => ?_) (fun H locs hE hP hD hS => ?_)
  ·
    have hEx : E = "java/lang/IndexOutOfBoundsException" := (one_chk (P := fun E => E = "java/lang/IndexOutOfBoundsException") (rfl)) E hE
    subst hEx
    refine catL hown htab hNC hC.2.2.2.2 w151 w155 w157 w159 161 (367, 372, 534, 159) rfl rfl (by decide) (by decide +kernel) hce hcv hcl ?_
    refine lv_astore (lv' := [(7, .ref (q9)), (0, .ref (v 0)), (1, .int (26)), (2, .int (z)), (3, .int (e0)), (4, .int (e1)), (5, .int (e2)), (6, .int (e3))]) hx hb dL_call_534 hl (by decide) rfl (fun ls hl => ?_)
    refine lv_bipush (v := -104) hx hb dL_call_536 (by decide) ?_
    refine endI (r := kE ((O 0) 7 z.toNatClampNeg) (chkB (inN z N) "java/lang/IndexOutOfBoundsException")) (by rw [hE]; rfl) ?_
    exact hret _ _ _ _ _ _ dL_call_538 hP hD hS (by decide) (by decide)
  ·
    have hE1 : kE ((O 0) 7 z.toNatClampNeg) (chkB (inN z N) "java/lang/IndexOutOfBoundsException") = (O 0) 7 z.toNatClampNeg := by rw [hE]; rfl
    refine endI (r := kE ((O 0) 7 z.toNatClampNeg) (chkB (inN z N) "java/lang/IndexOutOfBoundsException")) hE1.symm ?_
    exact hret _ _ _ _ _ _ dL_call_372 hP hD hS (by decide) (by decide)

set_option maxHeartbeats 4000000 in
set_option maxRecDepth 100000 in
theorem c_call_27 (l : Launch) (hl9 : l.stackTraces = false) (D : va_G) (T : Nat → ClassId) (aK aV : Nat → Nat) (v : Nat → Nat) (B : Nat → Nat → Nat) (O : Nat → Nat → Nat → Int32) (g : CSt) (ln un nx pl : Nat) (f0 f1 f2 : Nat → Int32) (z : Int32) (e0 : Int32) (e1 : Int32) (e2 : Int32) (e3 : Int32) (N : Nat) (K : Nat) (C : Nat) (nt : Nat) (hOI : OI (O 0) N K C nt) (sz : Nat) : Met l yL_call wsL_call ({ frames := 10, cells := 4, slots := 24, locals := 215 } : Room) (va_Pc [.ref (v 0), .int (27), .int (z), .int (e0), .int (e1), .int (e2), .int (e3)] (LWP D T aK aV (WIN T v B O g ln un nx pl f0 f1 f2) sz)) (va_Qi (fun r9 (_ : Unit) => r9 = kE (bI (decide ((O 0) 8 z.toNatClampNeg = 0))) (chkB (inN z N) "java/lang/IndexOutOfBoundsException")) (fun _ t => QS D T (va_A (WIN T v B O g ln un nx pl f0 f1 f2) sz) (WIN T v B O g ln un nx pl f0 f1 f2) t) (va_A (WIN T v B O g ln un nx pl f0 f1 f2) sz)) 4 24 (va_A (WIN T v B O g ln un nx pl f0 f1 f2) sz) := by
  refine metLi (cc := cL_call) (maxL := 8) (by decide) rfl (Nat.le_of_ble_eq_true rfl) ?_
  intro p e s m args below meth c Q ls A hx hb hml hown hts htab hNC hC hP hK hD hA hS hl hret
  have hown : s.vm.findClass RL = some m.cls := hown
  have hl : lv_has ls 8 [(0, .ref (v 0)), (1, .int (27)), (2, .int (z)), (3, .int (e0)), (4, .int (e1)), (5, .int (e2)), (6, .int (e3))] := hl
  have w151 := hts (Cond.classLink RL 151 "java/util/NoSuchElementException") (List.mem_cons_of_mem _ (gT_of mw_646 rfl))
  have w155 := hts (Cond.classLink RL 155 "java/lang/IllegalStateException") (List.mem_cons_of_mem _ (gT_of mw_1186 rfl))
  have w157 := hts (Cond.classLink RL 157 "java/lang/IllegalArgumentException") (List.mem_cons_of_mem _ (gT_of mw_1187 rfl))
  have w159 := hts (Cond.classLink RL 159 "java/lang/IndexOutOfBoundsException") (List.mem_cons_of_mem _ (gT_of mw_1188 rfl))
  refine lv_iload_n hx hb dL_call_0 rfl (lv_at hl 1 rfl) ?_
  refine lv_tableIn (off := 372) (tgt := 373) hx hb dL_call_1 (by decide) (by decide) (by decide) (by decide) ?_
  refine lv_aload_n hx hb dL_call_373 rfl (lv_at hl 0 rfl) ?_
  refine lv_iload_n hx hb dL_call_374 rfl (lv_at hl 2 rfl) ?_
  refine wxVi (As := [.int (z)]) (rest := []) ⟨hx, hb, hml, hown, hts⟩ (c_X9_isWaiting l hl9 D T aK aV v B O g ln un nx pl f0 f1 f2 z N K C nt hOI _) (cwV 1 hts (gC gl_X9_isWaiting) rfl rfl rfl (by decide +kernel) ⟨Nat.le_of_ble_eq_true rfl, Nat.le_of_ble_eq_true rfl⟩) (Foc.rfl _ _) (Foc.rfl _ _) hC hK hP hD hS hA 0 rfl rfl rfl hl.1 rfl (Nat.le_of_ble_eq_true rfl) ⟨Nat.le_of_ble_eq_true rfl, Nat.le_of_ble_eq_true rfl⟩ dL_call_375 (fun E ce q9 H locs hE hP hD hS hce hcv hcl => ?_) (fun H locs hE hP hD hS => ?_)
  ·
    have hEx : E = "java/lang/IndexOutOfBoundsException" := (one_chk (P := fun E => E = "java/lang/IndexOutOfBoundsException") (rfl)) E hE
    subst hEx
    refine catL hown htab hNC hC.2.2.2.2 w151 w155 w157 w159 162 (373, 386, 534, 159) rfl rfl (by decide) (by decide +kernel) hce hcv hcl ?_
    refine lv_astore (lv' := [(7, .ref (q9)), (0, .ref (v 0)), (1, .int (27)), (2, .int (z)), (3, .int (e0)), (4, .int (e1)), (5, .int (e2)), (6, .int (e3))]) hx hb dL_call_534 hl (by decide) rfl (fun ls hl => ?_)
    refine lv_bipush (v := -104) hx hb dL_call_536 (by decide) ?_
    refine endI (r := kE (bI (decide ((O 0) 8 z.toNatClampNeg = 0))) (chkB (inN z N) "java/lang/IndexOutOfBoundsException")) (by rw [hE]; rfl) ?_
    exact hret _ _ _ _ _ _ dL_call_538 hP hD hS (by decide) (by decide)
  ·
    have hE1 : kE (bI (decide ((O 0) 8 z.toNatClampNeg = 0))) (chkB (inN z N) "java/lang/IndexOutOfBoundsException") = bI (decide ((O 0) 8 z.toNatClampNeg = 0)) := by rw [hE]; rfl
    refine lv_if_eq (tgt := 385) hx hb dL_call_378 (by decide) (fun cb => ?_) (fun cb => ?_)
    ·
      refine lv_iconst (v := 0) hx hb dL_call_385 (by decide) ?_
      refine endI (r := kE (bI (decide ((O 0) 8 z.toNatClampNeg = 0))) (chkB (inN z N) "java/lang/IndexOutOfBoundsException")) (by rw [hE1]; exact cb.symm) ?_
      exact hret _ _ _ _ _ _ dL_call_386 hP hD hS (by decide) (by decide)
    ·
      refine lv_iconst (v := 1) hx hb dL_call_381 (by decide) ?_
      refine lv_goto (tgt := 386) hx hb dL_call_382 (by decide) ?_
      refine endI (r := kE (bI (decide ((O 0) 8 z.toNatClampNeg = 0))) (chkB (inN z N) "java/lang/IndexOutOfBoundsException")) (by rw [hE1, bI_n0.mp cb]; rfl) ?_
      exact hret _ _ _ _ _ _ dL_call_386 hP hD hS (by decide) (by decide)

set_option maxHeartbeats 4000000 in
set_option maxRecDepth 100000 in
theorem c_call_28 (l : Launch) (hl9 : l.stackTraces = false) (D : va_G) (T : Nat → ClassId) (aK aV : Nat → Nat) (v : Nat → Nat) (B : Nat → Nat → Nat) (O : Nat → Nat → Nat → Int32) (g : CSt) (ln un nx pl : Nat) (f0 f1 f2 : Nat → Int32) (z : Int32) (e0 : Int32) (e1 : Int32) (e2 : Int32) (e3 : Int32) (N : Nat) (K : Nat) (C : Nat) (nt : Nat) (hOI : OI (O 0) N K C nt) (sz : Nat) : Met l yL_call wsL_call ({ frames := 10, cells := 4, slots := 24, locals := 215 } : Room) (va_Pc [.ref (v 0), .int (28), .int (z), .int (e0), .int (e1), .int (e2), .int (e3)] (LWP D T aK aV (WIN T v B O g ln un nx pl f0 f1 f2) sz)) (va_Qi (fun r9 (_ : Unit) => r9 = kE (bI (decide ((O 0) 8 z.toNatClampNeg = 1))) (chkB (inN z N) "java/lang/IndexOutOfBoundsException")) (fun _ t => QS D T (va_A (WIN T v B O g ln un nx pl f0 f1 f2) sz) (WIN T v B O g ln un nx pl f0 f1 f2) t) (va_A (WIN T v B O g ln un nx pl f0 f1 f2) sz)) 4 24 (va_A (WIN T v B O g ln un nx pl f0 f1 f2) sz) := by
  refine metLi (cc := cL_call) (maxL := 8) (by decide) rfl (Nat.le_of_ble_eq_true rfl) ?_
  intro p e s m args below meth c Q ls A hx hb hml hown hts htab hNC hC hP hK hD hA hS hl hret
  have hown : s.vm.findClass RL = some m.cls := hown
  have hl : lv_has ls 8 [(0, .ref (v 0)), (1, .int (28)), (2, .int (z)), (3, .int (e0)), (4, .int (e1)), (5, .int (e2)), (6, .int (e3))] := hl
  have w151 := hts (Cond.classLink RL 151 "java/util/NoSuchElementException") (List.mem_cons_of_mem _ (gT_of mw_646 rfl))
  have w155 := hts (Cond.classLink RL 155 "java/lang/IllegalStateException") (List.mem_cons_of_mem _ (gT_of mw_1186 rfl))
  have w157 := hts (Cond.classLink RL 157 "java/lang/IllegalArgumentException") (List.mem_cons_of_mem _ (gT_of mw_1187 rfl))
  have w159 := hts (Cond.classLink RL 159 "java/lang/IndexOutOfBoundsException") (List.mem_cons_of_mem _ (gT_of mw_1188 rfl))
  refine lv_iload_n hx hb dL_call_0 rfl (lv_at hl 1 rfl) ?_
  refine lv_tableIn (off := 386) (tgt := 387) hx hb dL_call_1 (by decide) (by decide) (by decide) (by decide) ?_
  refine lv_aload_n hx hb dL_call_387 rfl (lv_at hl 0 rfl) ?_
  refine lv_iload_n hx hb dL_call_388 rfl (lv_at hl 2 rfl) ?_
  refine wxVi (As := [.int (z)]) (rest := []) ⟨hx, hb, hml, hown, hts⟩ (c_X9_isAnswered l hl9 D T aK aV v B O g ln un nx pl f0 f1 f2 z N K C nt hOI _) (cwV 1 hts (gC gl_X9_isAnswered) rfl rfl rfl (by decide +kernel) ⟨Nat.le_of_ble_eq_true rfl, Nat.le_of_ble_eq_true rfl⟩) (Foc.rfl _ _) (Foc.rfl _ _) hC hK hP hD hS hA 0 rfl rfl rfl hl.1 rfl (Nat.le_of_ble_eq_true rfl) ⟨Nat.le_of_ble_eq_true rfl, Nat.le_of_ble_eq_true rfl⟩ dL_call_389 (fun E ce q9 H locs hE hP hD hS hce hcv hcl => ?_) (fun H locs hE hP hD hS => ?_)
  ·
    have hEx : E = "java/lang/IndexOutOfBoundsException" := (one_chk (P := fun E => E = "java/lang/IndexOutOfBoundsException") (rfl)) E hE
    subst hEx
    refine catL hown htab hNC hC.2.2.2.2 w151 w155 w157 w159 163 (387, 400, 534, 159) rfl rfl (by decide) (by decide +kernel) hce hcv hcl ?_
    refine lv_astore (lv' := [(7, .ref (q9)), (0, .ref (v 0)), (1, .int (28)), (2, .int (z)), (3, .int (e0)), (4, .int (e1)), (5, .int (e2)), (6, .int (e3))]) hx hb dL_call_534 hl (by decide) rfl (fun ls hl => ?_)
    refine lv_bipush (v := -104) hx hb dL_call_536 (by decide) ?_
    refine endI (r := kE (bI (decide ((O 0) 8 z.toNatClampNeg = 1))) (chkB (inN z N) "java/lang/IndexOutOfBoundsException")) (by rw [hE]; rfl) ?_
    exact hret _ _ _ _ _ _ dL_call_538 hP hD hS (by decide) (by decide)
  ·
    have hE1 : kE (bI (decide ((O 0) 8 z.toNatClampNeg = 1))) (chkB (inN z N) "java/lang/IndexOutOfBoundsException") = bI (decide ((O 0) 8 z.toNatClampNeg = 1)) := by rw [hE]; rfl
    refine lv_if_eq (tgt := 399) hx hb dL_call_392 (by decide) (fun cb => ?_) (fun cb => ?_)
    ·
      refine lv_iconst (v := 0) hx hb dL_call_399 (by decide) ?_
      refine endI (r := kE (bI (decide ((O 0) 8 z.toNatClampNeg = 1))) (chkB (inN z N) "java/lang/IndexOutOfBoundsException")) (by rw [hE1]; exact cb.symm) ?_
      exact hret _ _ _ _ _ _ dL_call_400 hP hD hS (by decide) (by decide)
    ·
      refine lv_iconst (v := 1) hx hb dL_call_395 (by decide) ?_
      refine lv_goto (tgt := 400) hx hb dL_call_396 (by decide) ?_
      refine endI (r := kE (bI (decide ((O 0) 8 z.toNatClampNeg = 1))) (chkB (inN z N) "java/lang/IndexOutOfBoundsException")) (by rw [hE1, bI_n0.mp cb]; rfl) ?_
      exact hret _ _ _ _ _ _ dL_call_400 hP hD hS (by decide) (by decide)

set_option maxHeartbeats 4000000 in
set_option maxRecDepth 100000 in
theorem c_call_29 (l : Launch) (hl9 : l.stackTraces = false) (D : va_G) (T : Nat → ClassId) (aK aV : Nat → Nat) (v : Nat → Nat) (B : Nat → Nat → Nat) (O : Nat → Nat → Nat → Int32) (g : CSt) (ln un nx pl : Nat) (f0 f1 f2 : Nat → Int32) (z : Int32) (e0 : Int32) (e1 : Int32) (e2 : Int32) (e3 : Int32) (N : Nat) (K : Nat) (C : Nat) (nt : Nat) (hOI : OI (O 0) N K C nt) (sz : Nat) : Met l yL_call wsL_call ({ frames := 10, cells := 4, slots := 24, locals := 215 } : Room) (va_Pc [.ref (v 0), .int (29), .int (z), .int (e0), .int (e1), .int (e2), .int (e3)] (LWP D T aK aV (WIN T v B O g ln un nx pl f0 f1 f2) sz)) (va_Qi (fun r9 (_ : Unit) => r9 = kE (bI (decide ((O 0) 8 z.toNatClampNeg = 2))) (chkB (inN z N) "java/lang/IndexOutOfBoundsException")) (fun _ t => QS D T (va_A (WIN T v B O g ln un nx pl f0 f1 f2) sz) (WIN T v B O g ln un nx pl f0 f1 f2) t) (va_A (WIN T v B O g ln un nx pl f0 f1 f2) sz)) 4 24 (va_A (WIN T v B O g ln un nx pl f0 f1 f2) sz) := by
  refine metLi (cc := cL_call) (maxL := 8) (by decide) rfl (Nat.le_of_ble_eq_true rfl) ?_
  intro p e s m args below meth c Q ls A hx hb hml hown hts htab hNC hC hP hK hD hA hS hl hret
  have hown : s.vm.findClass RL = some m.cls := hown
  have hl : lv_has ls 8 [(0, .ref (v 0)), (1, .int (29)), (2, .int (z)), (3, .int (e0)), (4, .int (e1)), (5, .int (e2)), (6, .int (e3))] := hl
  have w151 := hts (Cond.classLink RL 151 "java/util/NoSuchElementException") (List.mem_cons_of_mem _ (gT_of mw_646 rfl))
  have w155 := hts (Cond.classLink RL 155 "java/lang/IllegalStateException") (List.mem_cons_of_mem _ (gT_of mw_1186 rfl))
  have w157 := hts (Cond.classLink RL 157 "java/lang/IllegalArgumentException") (List.mem_cons_of_mem _ (gT_of mw_1187 rfl))
  have w159 := hts (Cond.classLink RL 159 "java/lang/IndexOutOfBoundsException") (List.mem_cons_of_mem _ (gT_of mw_1188 rfl))
  refine lv_iload_n hx hb dL_call_0 rfl (lv_at hl 1 rfl) ?_
  refine lv_tableIn (off := 400) (tgt := 401) hx hb dL_call_1 (by decide) (by decide) (by decide) (by decide) ?_
  refine lv_aload_n hx hb dL_call_401 rfl (lv_at hl 0 rfl) ?_
  refine lv_iload_n hx hb dL_call_402 rfl (lv_at hl 2 rfl) ?_
  refine wxVi (As := [.int (z)]) (rest := []) ⟨hx, hb, hml, hown, hts⟩ (c_X9_isDismissed l hl9 D T aK aV v B O g ln un nx pl f0 f1 f2 z N K C nt hOI _) (cwV 1 hts (gC gl_X9_isDismissed) rfl rfl rfl (by decide +kernel) ⟨Nat.le_of_ble_eq_true rfl, Nat.le_of_ble_eq_true rfl⟩) (Foc.rfl _ _) (Foc.rfl _ _) hC hK hP hD hS hA 0 rfl rfl rfl hl.1 rfl (Nat.le_of_ble_eq_true rfl) ⟨Nat.le_of_ble_eq_true rfl, Nat.le_of_ble_eq_true rfl⟩ dL_call_403 (fun E ce q9 H locs hE hP hD hS hce hcv hcl => ?_) (fun H locs hE hP hD hS => ?_)
  ·
    have hEx : E = "java/lang/IndexOutOfBoundsException" := (one_chk (P := fun E => E = "java/lang/IndexOutOfBoundsException") (rfl)) E hE
    subst hEx
    refine catL hown htab hNC hC.2.2.2.2 w151 w155 w157 w159 164 (401, 414, 534, 159) rfl rfl (by decide) (by decide +kernel) hce hcv hcl ?_
    refine lv_astore (lv' := [(7, .ref (q9)), (0, .ref (v 0)), (1, .int (29)), (2, .int (z)), (3, .int (e0)), (4, .int (e1)), (5, .int (e2)), (6, .int (e3))]) hx hb dL_call_534 hl (by decide) rfl (fun ls hl => ?_)
    refine lv_bipush (v := -104) hx hb dL_call_536 (by decide) ?_
    refine endI (r := kE (bI (decide ((O 0) 8 z.toNatClampNeg = 2))) (chkB (inN z N) "java/lang/IndexOutOfBoundsException")) (by rw [hE]; rfl) ?_
    exact hret _ _ _ _ _ _ dL_call_538 hP hD hS (by decide) (by decide)
  ·
    have hE1 : kE (bI (decide ((O 0) 8 z.toNatClampNeg = 2))) (chkB (inN z N) "java/lang/IndexOutOfBoundsException") = bI (decide ((O 0) 8 z.toNatClampNeg = 2)) := by rw [hE]; rfl
    refine lv_if_eq (tgt := 413) hx hb dL_call_406 (by decide) (fun cb => ?_) (fun cb => ?_)
    ·
      refine lv_iconst (v := 0) hx hb dL_call_413 (by decide) ?_
      refine endI (r := kE (bI (decide ((O 0) 8 z.toNatClampNeg = 2))) (chkB (inN z N) "java/lang/IndexOutOfBoundsException")) (by rw [hE1]; exact cb.symm) ?_
      exact hret _ _ _ _ _ _ dL_call_414 hP hD hS (by decide) (by decide)
    ·
      refine lv_iconst (v := 1) hx hb dL_call_409 (by decide) ?_
      refine lv_goto (tgt := 414) hx hb dL_call_410 (by decide) ?_
      refine endI (r := kE (bI (decide ((O 0) 8 z.toNatClampNeg = 2))) (chkB (inN z N) "java/lang/IndexOutOfBoundsException")) (by rw [hE1, bI_n0.mp cb]; rfl) ?_
      exact hret _ _ _ _ _ _ dL_call_414 hP hD hS (by decide) (by decide)

set_option maxHeartbeats 4000000 in
set_option maxRecDepth 100000 in
theorem c_call_30 (l : Launch) (hl9 : l.stackTraces = false) (D : va_G) (T : Nat → ClassId) (aK aV : Nat → Nat) (v : Nat → Nat) (B : Nat → Nat → Nat) (O : Nat → Nat → Nat → Int32) (g : CSt) (ln un nx pl : Nat) (f0 f1 f2 : Nat → Int32) (z : Int32) (e0 : Int32) (e1 : Int32) (e2 : Int32) (e3 : Int32) (N : Nat) (K : Nat) (C : Nat) (nt : Nat) (hOI : OI (O 0) N K C nt) (sz : Nat) : Met l yL_call wsL_call ({ frames := 10, cells := 4, slots := 24, locals := 215 } : Room) (va_Pc [.ref (v 0), .int (30), .int (z), .int (e0), .int (e1), .int (e2), .int (e3)] (LWP D T aK aV (WIN T v B O g ln un nx pl f0 f1 f2) sz)) (va_Qi (fun r9 (_ : Unit) => r9 = kE (bI (decide ((O 0) 8 z.toNatClampNeg = 3))) (chkB (inN z N) "java/lang/IndexOutOfBoundsException")) (fun _ t => QS D T (va_A (WIN T v B O g ln un nx pl f0 f1 f2) sz) (WIN T v B O g ln un nx pl f0 f1 f2) t) (va_A (WIN T v B O g ln un nx pl f0 f1 f2) sz)) 4 24 (va_A (WIN T v B O g ln un nx pl f0 f1 f2) sz) := by
  refine metLi (cc := cL_call) (maxL := 8) (by decide) rfl (Nat.le_of_ble_eq_true rfl) ?_
  intro p e s m args below meth c Q ls A hx hb hml hown hts htab hNC hC hP hK hD hA hS hl hret
  have hown : s.vm.findClass RL = some m.cls := hown
  have hl : lv_has ls 8 [(0, .ref (v 0)), (1, .int (30)), (2, .int (z)), (3, .int (e0)), (4, .int (e1)), (5, .int (e2)), (6, .int (e3))] := hl
  have w151 := hts (Cond.classLink RL 151 "java/util/NoSuchElementException") (List.mem_cons_of_mem _ (gT_of mw_646 rfl))
  have w155 := hts (Cond.classLink RL 155 "java/lang/IllegalStateException") (List.mem_cons_of_mem _ (gT_of mw_1186 rfl))
  have w157 := hts (Cond.classLink RL 157 "java/lang/IllegalArgumentException") (List.mem_cons_of_mem _ (gT_of mw_1187 rfl))
  have w159 := hts (Cond.classLink RL 159 "java/lang/IndexOutOfBoundsException") (List.mem_cons_of_mem _ (gT_of mw_1188 rfl))
  refine lv_iload_n hx hb dL_call_0 rfl (lv_at hl 1 rfl) ?_
  refine lv_tableIn (off := 414) (tgt := 415) hx hb dL_call_1 (by decide) (by decide) (by decide) (by decide) ?_
  refine lv_aload_n hx hb dL_call_415 rfl (lv_at hl 0 rfl) ?_
  refine lv_iload_n hx hb dL_call_416 rfl (lv_at hl 2 rfl) ?_
  refine wxVi (As := [.int (z)]) (rest := []) ⟨hx, hb, hml, hown, hts⟩ (c_X9_isGivenUp l hl9 D T aK aV v B O g ln un nx pl f0 f1 f2 z N K C nt hOI _) (cwV 1 hts (gC gl_X9_isGivenUp) rfl rfl rfl (by decide +kernel) ⟨Nat.le_of_ble_eq_true rfl, Nat.le_of_ble_eq_true rfl⟩) (Foc.rfl _ _) (Foc.rfl _ _) hC hK hP hD hS hA 0 rfl rfl rfl hl.1 rfl (Nat.le_of_ble_eq_true rfl) ⟨Nat.le_of_ble_eq_true rfl, Nat.le_of_ble_eq_true rfl⟩ dL_call_417 (fun E ce q9 H locs hE hP hD hS hce hcv hcl => ?_) (fun H locs hE hP hD hS => ?_)
  ·
    have hEx : E = "java/lang/IndexOutOfBoundsException" := (one_chk (P := fun E => E = "java/lang/IndexOutOfBoundsException") (rfl)) E hE
    subst hEx
    refine catL hown htab hNC hC.2.2.2.2 w151 w155 w157 w159 165 (415, 428, 534, 159) rfl rfl (by decide) (by decide +kernel) hce hcv hcl ?_
    refine lv_astore (lv' := [(7, .ref (q9)), (0, .ref (v 0)), (1, .int (30)), (2, .int (z)), (3, .int (e0)), (4, .int (e1)), (5, .int (e2)), (6, .int (e3))]) hx hb dL_call_534 hl (by decide) rfl (fun ls hl => ?_)
    refine lv_bipush (v := -104) hx hb dL_call_536 (by decide) ?_
    refine endI (r := kE (bI (decide ((O 0) 8 z.toNatClampNeg = 3))) (chkB (inN z N) "java/lang/IndexOutOfBoundsException")) (by rw [hE]; rfl) ?_
    exact hret _ _ _ _ _ _ dL_call_538 hP hD hS (by decide) (by decide)
  ·
    have hE1 : kE (bI (decide ((O 0) 8 z.toNatClampNeg = 3))) (chkB (inN z N) "java/lang/IndexOutOfBoundsException") = bI (decide ((O 0) 8 z.toNatClampNeg = 3)) := by rw [hE]; rfl
    refine lv_if_eq (tgt := 427) hx hb dL_call_420 (by decide) (fun cb => ?_) (fun cb => ?_)
    ·
      refine lv_iconst (v := 0) hx hb dL_call_427 (by decide) ?_
      refine endI (r := kE (bI (decide ((O 0) 8 z.toNatClampNeg = 3))) (chkB (inN z N) "java/lang/IndexOutOfBoundsException")) (by rw [hE1]; exact cb.symm) ?_
      exact hret _ _ _ _ _ _ dL_call_428 hP hD hS (by decide) (by decide)
    ·
      refine lv_iconst (v := 1) hx hb dL_call_423 (by decide) ?_
      refine lv_goto (tgt := 428) hx hb dL_call_424 (by decide) ?_
      refine endI (r := kE (bI (decide ((O 0) 8 z.toNatClampNeg = 3))) (chkB (inN z N) "java/lang/IndexOutOfBoundsException")) (by rw [hE1, bI_n0.mp cb]; rfl) ?_
      exact hret _ _ _ _ _ _ dL_call_428 hP hD hS (by decide) (by decide)

set_option maxHeartbeats 4000000 in
set_option maxRecDepth 100000 in
theorem c_call_31 (l : Launch) (hl9 : l.stackTraces = false) (D : va_G) (T : Nat → ClassId) (aK aV : Nat → Nat) (v : Nat → Nat) (B : Nat → Nat → Nat) (O : Nat → Nat → Nat → Int32) (g : CSt) (ln un nx pl : Nat) (f0 f1 f2 : Nat → Int32) (z : Int32) (e0 : Int32) (e1 : Int32) (e2 : Int32) (e3 : Int32) (N : Nat) (K : Nat) (C : Nat) (nt : Nat) (hOI : OI (O 0) N K C nt) (sz : Nat) : Met l yL_call wsL_call ({ frames := 10, cells := 4, slots := 24, locals := 215 } : Room) (va_Pc [.ref (v 0), .int (31), .int (z), .int (e0), .int (e1), .int (e2), .int (e3)] (LWP D T aK aV (WIN T v B O g ln un nx pl f0 f1 f2) sz)) (va_Qi (fun r9 (_ : Unit) => r9 = kE ((O 0) 9 z.toNatClampNeg) (orE (chkB (inN z N) "java/lang/IndexOutOfBoundsException") (chkB (!decide ((O 0) 8 z.toNatClampNeg = 0)) "java/util/NoSuchElementException"))) (fun _ t => QS D T (va_A (WIN T v B O g ln un nx pl f0 f1 f2) sz) (WIN T v B O g ln un nx pl f0 f1 f2) t) (va_A (WIN T v B O g ln un nx pl f0 f1 f2) sz)) 4 24 (va_A (WIN T v B O g ln un nx pl f0 f1 f2) sz) := by
  refine metLi (cc := cL_call) (maxL := 8) (by decide) rfl (Nat.le_of_ble_eq_true rfl) ?_
  intro p e s m args below meth c Q ls A hx hb hml hown hts htab hNC hC hP hK hD hA hS hl hret
  have hown : s.vm.findClass RL = some m.cls := hown
  have hl : lv_has ls 8 [(0, .ref (v 0)), (1, .int (31)), (2, .int (z)), (3, .int (e0)), (4, .int (e1)), (5, .int (e2)), (6, .int (e3))] := hl
  have w151 := hts (Cond.classLink RL 151 "java/util/NoSuchElementException") (List.mem_cons_of_mem _ (gT_of mw_646 rfl))
  have w155 := hts (Cond.classLink RL 155 "java/lang/IllegalStateException") (List.mem_cons_of_mem _ (gT_of mw_1186 rfl))
  have w157 := hts (Cond.classLink RL 157 "java/lang/IllegalArgumentException") (List.mem_cons_of_mem _ (gT_of mw_1187 rfl))
  have w159 := hts (Cond.classLink RL 159 "java/lang/IndexOutOfBoundsException") (List.mem_cons_of_mem _ (gT_of mw_1188 rfl))
  refine lv_iload_n hx hb dL_call_0 rfl (lv_at hl 1 rfl) ?_
  refine lv_tableIn (off := 428) (tgt := 429) hx hb dL_call_1 (by decide) (by decide) (by decide) (by decide) ?_
  refine lv_aload_n hx hb dL_call_429 rfl (lv_at hl 0 rfl) ?_
  refine lv_iload_n hx hb dL_call_430 rfl (lv_at hl 2 rfl) ?_
  refine wxVi (As := [.int (z)]) (rest := []) ⟨hx, hb, hml, hown, hts⟩ (c_X9_closedIn l hl9 D T aK aV v B O g ln un nx pl f0 f1 f2 z N K C nt hOI _) (cwV 1 hts (gC gl_X9_closedIn) rfl rfl rfl (by decide +kernel) ⟨Nat.le_of_ble_eq_true rfl, Nat.le_of_ble_eq_true rfl⟩) (Foc.rfl _ _) (Foc.rfl _ _) hC hK hP hD hS hA 0 rfl rfl rfl hl.1 rfl (Nat.le_of_ble_eq_true rfl) ⟨Nat.le_of_ble_eq_true rfl, Nat.le_of_ble_eq_true rfl⟩ dL_call_431 (fun E ce q9 H locs hE hP hD hS hce hcv hcl => ?_) (fun H locs hE hP hD hS => ?_)
  ·
    have hEx : E = "java/util/NoSuchElementException" ∨ E = "java/lang/IndexOutOfBoundsException" := (one_or (one_chk (P := fun E => E = "java/util/NoSuchElementException" ∨ E = "java/lang/IndexOutOfBoundsException") (Or.inr (rfl))) (one_chk (P := fun E => E = "java/util/NoSuchElementException" ∨ E = "java/lang/IndexOutOfBoundsException") (Or.inl rfl))) E hE
    rcases hEx with rfl | hEx
    ·
      refine catL hown htab hNC hC.2.2.2.2 w151 w155 w157 w159 31 (429, 434, 519, 151) rfl rfl (by decide) (by decide +kernel) hce hcv hcl ?_
      refine lv_astore (lv' := [(7, .ref (q9)), (0, .ref (v 0)), (1, .int (31)), (2, .int (z)), (3, .int (e0)), (4, .int (e1)), (5, .int (e2)), (6, .int (e3))]) hx hb dL_call_519 hl (by decide) rfl (fun ls hl => ?_)
      refine lv_bipush (v := -101) hx hb dL_call_521 (by decide) ?_
      refine endI (r := kE ((O 0) 9 z.toNatClampNeg) (orE (chkB (inN z N) "java/lang/IndexOutOfBoundsException") (chkB (!decide ((O 0) 8 z.toNatClampNeg = 0)) "java/util/NoSuchElementException"))) (by rw [hE]; rfl) ?_
      exact hret _ _ _ _ _ _ dL_call_523 hP hD hS (by decide) (by decide)
    ·
      subst hEx
      refine catL hown htab hNC hC.2.2.2.2 w151 w155 w157 w159 166 (429, 434, 534, 159) rfl rfl (by decide) (by decide +kernel) hce hcv hcl ?_
      refine lv_astore (lv' := [(7, .ref (q9)), (0, .ref (v 0)), (1, .int (31)), (2, .int (z)), (3, .int (e0)), (4, .int (e1)), (5, .int (e2)), (6, .int (e3))]) hx hb dL_call_534 hl (by decide) rfl (fun ls hl => ?_)
      refine lv_bipush (v := -104) hx hb dL_call_536 (by decide) ?_
      refine endI (r := kE ((O 0) 9 z.toNatClampNeg) (orE (chkB (inN z N) "java/lang/IndexOutOfBoundsException") (chkB (!decide ((O 0) 8 z.toNatClampNeg = 0)) "java/util/NoSuchElementException"))) (by rw [hE]; rfl) ?_
      exact hret _ _ _ _ _ _ dL_call_538 hP hD hS (by decide) (by decide)
  ·
    have hE1 : kE ((O 0) 9 z.toNatClampNeg) (orE (chkB (inN z N) "java/lang/IndexOutOfBoundsException") (chkB (!decide ((O 0) 8 z.toNatClampNeg = 0)) "java/util/NoSuchElementException")) = (O 0) 9 z.toNatClampNeg := by rw [hE]; rfl
    refine endI (r := kE ((O 0) 9 z.toNatClampNeg) (orE (chkB (inN z N) "java/lang/IndexOutOfBoundsException") (chkB (!decide ((O 0) 8 z.toNatClampNeg = 0)) "java/util/NoSuchElementException"))) hE1.symm ?_
    exact hret _ _ _ _ _ _ dL_call_434 hP hD hS (by decide) (by decide)

set_option maxHeartbeats 4000000 in
set_option maxRecDepth 100000 in
theorem c_call_32 (l : Launch) (hl9 : l.stackTraces = false) (D : va_G) (T : Nat → ClassId) (aK aV : Nat → Nat) (v : Nat → Nat) (B : Nat → Nat → Nat) (O : Nat → Nat → Nat → Int32) (g : CSt) (ln un nx pl : Nat) (f0 f1 f2 : Nat → Int32) (z : Int32) (e0 : Int32) (e1 : Int32) (e2 : Int32) (e3 : Int32) (N : Nat) (K : Nat) (C : Nat) (nt : Nat) (hOI : OI (O 0) N K C nt) (sz : Nat) : Met l yL_call wsL_call ({ frames := 10, cells := 4, slots := 24, locals := 215 } : Room) (va_Pc [.ref (v 0), .int (32), .int (z), .int (e0), .int (e1), .int (e2), .int (e3)] (LWP D T aK aV (WIN T v B O g ln un nx pl f0 f1 f2) sz)) (va_Qi (fun r9 (_ : Unit) => r9 = kE ((O 0) 10 z.toNatClampNeg) (orE (chkB (inN z N) "java/lang/IndexOutOfBoundsException") (chkB (!decide ((O 0) 10 z.toNatClampNeg = -1)) "java/util/NoSuchElementException"))) (fun _ t => QS D T (va_A (WIN T v B O g ln un nx pl f0 f1 f2) sz) (WIN T v B O g ln un nx pl f0 f1 f2) t) (va_A (WIN T v B O g ln un nx pl f0 f1 f2) sz)) 4 24 (va_A (WIN T v B O g ln un nx pl f0 f1 f2) sz) := by
  refine metLi (cc := cL_call) (maxL := 8) (by decide) rfl (Nat.le_of_ble_eq_true rfl) ?_
  intro p e s m args below meth c Q ls A hx hb hml hown hts htab hNC hC hP hK hD hA hS hl hret
  have hown : s.vm.findClass RL = some m.cls := hown
  have hl : lv_has ls 8 [(0, .ref (v 0)), (1, .int (32)), (2, .int (z)), (3, .int (e0)), (4, .int (e1)), (5, .int (e2)), (6, .int (e3))] := hl
  have w151 := hts (Cond.classLink RL 151 "java/util/NoSuchElementException") (List.mem_cons_of_mem _ (gT_of mw_646 rfl))
  have w155 := hts (Cond.classLink RL 155 "java/lang/IllegalStateException") (List.mem_cons_of_mem _ (gT_of mw_1186 rfl))
  have w157 := hts (Cond.classLink RL 157 "java/lang/IllegalArgumentException") (List.mem_cons_of_mem _ (gT_of mw_1187 rfl))
  have w159 := hts (Cond.classLink RL 159 "java/lang/IndexOutOfBoundsException") (List.mem_cons_of_mem _ (gT_of mw_1188 rfl))
  refine lv_iload_n hx hb dL_call_0 rfl (lv_at hl 1 rfl) ?_
  refine lv_tableIn (off := 434) (tgt := 435) hx hb dL_call_1 (by decide) (by decide) (by decide) (by decide) ?_
  refine lv_aload_n hx hb dL_call_435 rfl (lv_at hl 0 rfl) ?_
  refine lv_iload_n hx hb dL_call_436 rfl (lv_at hl 2 rfl) ?_
  refine wxVi (As := [.int (z)]) (rest := []) ⟨hx, hb, hml, hown, hts⟩ (c_X9_clerkOf l hl9 D T aK aV v B O g ln un nx pl f0 f1 f2 z N K C nt hOI _) (cwV 1 hts (gC gl_X9_clerkOf) rfl rfl rfl (by decide +kernel) ⟨Nat.le_of_ble_eq_true rfl, Nat.le_of_ble_eq_true rfl⟩) (Foc.rfl _ _) (Foc.rfl _ _) hC hK hP hD hS hA 0 rfl rfl rfl hl.1 rfl (Nat.le_of_ble_eq_true rfl) ⟨Nat.le_of_ble_eq_true rfl, Nat.le_of_ble_eq_true rfl⟩ dL_call_437 (fun E ce q9 H locs hE hP hD hS hce hcv hcl => ?_) (fun H locs hE hP hD hS => ?_)
  ·
    have hEx : E = "java/util/NoSuchElementException" ∨ E = "java/lang/IndexOutOfBoundsException" := (one_or (one_chk (P := fun E => E = "java/util/NoSuchElementException" ∨ E = "java/lang/IndexOutOfBoundsException") (Or.inr (rfl))) (one_chk (P := fun E => E = "java/util/NoSuchElementException" ∨ E = "java/lang/IndexOutOfBoundsException") (Or.inl rfl))) E hE
    rcases hEx with rfl | hEx
    ·
      refine catL hown htab hNC hC.2.2.2.2 w151 w155 w157 w159 32 (435, 440, 519, 151) rfl rfl (by decide) (by decide +kernel) hce hcv hcl ?_
      refine lv_astore (lv' := [(7, .ref (q9)), (0, .ref (v 0)), (1, .int (32)), (2, .int (z)), (3, .int (e0)), (4, .int (e1)), (5, .int (e2)), (6, .int (e3))]) hx hb dL_call_519 hl (by decide) rfl (fun ls hl => ?_)
      refine lv_bipush (v := -101) hx hb dL_call_521 (by decide) ?_
      refine endI (r := kE ((O 0) 10 z.toNatClampNeg) (orE (chkB (inN z N) "java/lang/IndexOutOfBoundsException") (chkB (!decide ((O 0) 10 z.toNatClampNeg = -1)) "java/util/NoSuchElementException"))) (by rw [hE]; rfl) ?_
      exact hret _ _ _ _ _ _ dL_call_523 hP hD hS (by decide) (by decide)
    ·
      subst hEx
      refine catL hown htab hNC hC.2.2.2.2 w151 w155 w157 w159 167 (435, 440, 534, 159) rfl rfl (by decide) (by decide +kernel) hce hcv hcl ?_
      refine lv_astore (lv' := [(7, .ref (q9)), (0, .ref (v 0)), (1, .int (32)), (2, .int (z)), (3, .int (e0)), (4, .int (e1)), (5, .int (e2)), (6, .int (e3))]) hx hb dL_call_534 hl (by decide) rfl (fun ls hl => ?_)
      refine lv_bipush (v := -104) hx hb dL_call_536 (by decide) ?_
      refine endI (r := kE ((O 0) 10 z.toNatClampNeg) (orE (chkB (inN z N) "java/lang/IndexOutOfBoundsException") (chkB (!decide ((O 0) 10 z.toNatClampNeg = -1)) "java/util/NoSuchElementException"))) (by rw [hE]; rfl) ?_
      exact hret _ _ _ _ _ _ dL_call_538 hP hD hS (by decide) (by decide)
  ·
    have hE1 : kE ((O 0) 10 z.toNatClampNeg) (orE (chkB (inN z N) "java/lang/IndexOutOfBoundsException") (chkB (!decide ((O 0) 10 z.toNatClampNeg = -1)) "java/util/NoSuchElementException")) = (O 0) 10 z.toNatClampNeg := by rw [hE]; rfl
    refine endI (r := kE ((O 0) 10 z.toNatClampNeg) (orE (chkB (inN z N) "java/lang/IndexOutOfBoundsException") (chkB (!decide ((O 0) 10 z.toNatClampNeg = -1)) "java/util/NoSuchElementException"))) hE1.symm ?_
    exact hret _ _ _ _ _ _ dL_call_440 hP hD hS (by decide) (by decide)

set_option maxHeartbeats 4000000 in
set_option maxRecDepth 100000 in
theorem c_call_33 (l : Launch) (hl9 : l.stackTraces = false) (D : va_G) (T : Nat → ClassId) (aK aV : Nat → Nat) (v : Nat → Nat) (B : Nat → Nat → Nat) (O : Nat → Nat → Nat → Int32) (g : CSt) (ln un nx pl : Nat) (f0 f1 f2 : Nat → Int32) (z : Int32) (z1 : Int32) (e0 : Int32) (e1 : Int32) (e2 : Int32) (N : Nat) (K : Nat) (C : Nat) (nt : Nat) (hOI : OI (O 0) N K C nt) (sz : Nat) : Met l yL_call wsL_call ({ frames := 10, cells := 4, slots := 24, locals := 215 } : Room) (va_Pc [.ref (v 0), .int (33), .int (z), .int (z1), .int (e0), .int (e1), .int (e2)] (LWP D T aK aV (WIN T v B O g ln un nx pl f0 f1 f2) sz)) (va_Qi (fun r9 (_ : Unit) => r9 = kE ((findC (O 0) z z1 N).elim 0 nI) (orE (chkB (rg z 0 99) "java/lang/IllegalArgumentException") (orE (chkB (rg z1 0 3) "java/lang/IllegalArgumentException") (chkB ((findC (O 0) z z1 N).isSome) "java/util/NoSuchElementException")))) (fun _ t => QS D T (va_A (WIN T v B O g ln un nx pl f0 f1 f2) sz) (WIN T v B O g ln un nx pl f0 f1 f2) t) (va_A (WIN T v B O g ln un nx pl f0 f1 f2) sz)) 4 24 (va_A (WIN T v B O g ln un nx pl f0 f1 f2) sz) := by
  refine metLi (cc := cL_call) (maxL := 8) (by decide) rfl (Nat.le_of_ble_eq_true rfl) ?_
  intro p e s m args below meth c Q ls A hx hb hml hown hts htab hNC hC hP hK hD hA hS hl hret
  have hown : s.vm.findClass RL = some m.cls := hown
  have hl : lv_has ls 8 [(0, .ref (v 0)), (1, .int (33)), (2, .int (z)), (3, .int (z1)), (4, .int (e0)), (5, .int (e1)), (6, .int (e2))] := hl
  have w151 := hts (Cond.classLink RL 151 "java/util/NoSuchElementException") (List.mem_cons_of_mem _ (gT_of mw_646 rfl))
  have w155 := hts (Cond.classLink RL 155 "java/lang/IllegalStateException") (List.mem_cons_of_mem _ (gT_of mw_1186 rfl))
  have w157 := hts (Cond.classLink RL 157 "java/lang/IllegalArgumentException") (List.mem_cons_of_mem _ (gT_of mw_1187 rfl))
  have w159 := hts (Cond.classLink RL 159 "java/lang/IndexOutOfBoundsException") (List.mem_cons_of_mem _ (gT_of mw_1188 rfl))
  refine lv_iload_n hx hb dL_call_0 rfl (lv_at hl 1 rfl) ?_
  refine lv_tableIn (off := 440) (tgt := 441) hx hb dL_call_1 (by decide) (by decide) (by decide) (by decide) ?_
  refine lv_aload_n hx hb dL_call_441 rfl (lv_at hl 0 rfl) ?_
  refine lv_iload_n hx hb dL_call_442 rfl (lv_at hl 2 rfl) ?_
  refine lv_iload_n hx hb dL_call_443 rfl (lv_at hl 3 rfl) ?_
  refine wxVi (As := [.int (z), .int (z1)]) (rest := []) ⟨hx, hb, hml, hown, hts⟩ (c_X9_waitingOf l hl9 D T aK aV v B O g ln un nx pl f0 f1 f2 z z1 N K C nt hOI _) (cwV 2 hts (gC gl_X9_waitingOf) rfl rfl rfl (by decide +kernel) ⟨Nat.le_of_ble_eq_true rfl, Nat.le_of_ble_eq_true rfl⟩) (Foc.rfl _ _) (Foc.rfl _ _) hC hK hP hD hS hA 0 rfl rfl rfl hl.1 rfl (Nat.le_of_ble_eq_true rfl) ⟨Nat.le_of_ble_eq_true rfl, Nat.le_of_ble_eq_true rfl⟩ dL_call_444 (fun E ce q9 H locs hE hP hD hS hce hcv hcl => ?_) (fun H locs hE hP hD hS => ?_)
  ·
    have hEx : E = "java/util/NoSuchElementException" ∨ E = "java/lang/IllegalArgumentException" := (one_or (one_chk (P := fun E => E = "java/util/NoSuchElementException" ∨ E = "java/lang/IllegalArgumentException") (Or.inr (rfl))) (one_or (one_chk (P := fun E => E = "java/util/NoSuchElementException" ∨ E = "java/lang/IllegalArgumentException") (Or.inr (rfl))) (one_chk (P := fun E => E = "java/util/NoSuchElementException" ∨ E = "java/lang/IllegalArgumentException") (Or.inl rfl)))) E hE
    rcases hEx with rfl | hEx
    ·
      refine catL hown htab hNC hC.2.2.2.2 w151 w155 w157 w159 33 (441, 447, 519, 151) rfl rfl (by decide) (by decide +kernel) hce hcv hcl ?_
      refine lv_astore (lv' := [(7, .ref (q9)), (0, .ref (v 0)), (1, .int (33)), (2, .int (z)), (3, .int (z1)), (4, .int (e0)), (5, .int (e1)), (6, .int (e2))]) hx hb dL_call_519 hl (by decide) rfl (fun ls hl => ?_)
      refine lv_bipush (v := -101) hx hb dL_call_521 (by decide) ?_
      refine endI (r := kE ((findC (O 0) z z1 N).elim 0 nI) (orE (chkB (rg z 0 99) "java/lang/IllegalArgumentException") (orE (chkB (rg z1 0 3) "java/lang/IllegalArgumentException") (chkB ((findC (O 0) z z1 N).isSome) "java/util/NoSuchElementException")))) (by rw [hE]; rfl) ?_
      exact hret _ _ _ _ _ _ dL_call_523 hP hD hS (by decide) (by decide)
    ·
      subst hEx
      refine catL hown htab hNC hC.2.2.2.2 w151 w155 w157 w159 123 (441, 447, 529, 157) rfl rfl (by decide) (by decide +kernel) hce hcv hcl ?_
      refine lv_astore (lv' := [(7, .ref (q9)), (0, .ref (v 0)), (1, .int (33)), (2, .int (z)), (3, .int (z1)), (4, .int (e0)), (5, .int (e1)), (6, .int (e2))]) hx hb dL_call_529 hl (by decide) rfl (fun ls hl => ?_)
      refine lv_bipush (v := -103) hx hb dL_call_531 (by decide) ?_
      refine endI (r := kE ((findC (O 0) z z1 N).elim 0 nI) (orE (chkB (rg z 0 99) "java/lang/IllegalArgumentException") (orE (chkB (rg z1 0 3) "java/lang/IllegalArgumentException") (chkB ((findC (O 0) z z1 N).isSome) "java/util/NoSuchElementException")))) (by rw [hE]; rfl) ?_
      exact hret _ _ _ _ _ _ dL_call_533 hP hD hS (by decide) (by decide)
  ·
    have hE1 : kE ((findC (O 0) z z1 N).elim 0 nI) (orE (chkB (rg z 0 99) "java/lang/IllegalArgumentException") (orE (chkB (rg z1 0 3) "java/lang/IllegalArgumentException") (chkB ((findC (O 0) z z1 N).isSome) "java/util/NoSuchElementException"))) = (findC (O 0) z z1 N).elim 0 nI := by rw [hE]; rfl
    refine endI (r := kE ((findC (O 0) z z1 N).elim 0 nI) (orE (chkB (rg z 0 99) "java/lang/IllegalArgumentException") (orE (chkB (rg z1 0 3) "java/lang/IllegalArgumentException") (chkB ((findC (O 0) z z1 N).isSome) "java/util/NoSuchElementException")))) hE1.symm ?_
    exact hret _ _ _ _ _ _ dL_call_447 hP hD hS (by decide) (by decide)

set_option maxHeartbeats 4000000 in
set_option maxRecDepth 100000 in
theorem c_call_34 (l : Launch) (hl9 : l.stackTraces = false) (D : va_G) (T : Nat → ClassId) (aK aV : Nat → Nat) (v : Nat → Nat) (B : Nat → Nat → Nat) (O : Nat → Nat → Nat → Int32) (g : CSt) (ln un nx pl : Nat) (f0 f1 f2 : Nat → Int32) (e0 : Int32) (e1 : Int32) (e2 : Int32) (e3 : Int32) (e4 : Int32) (N : Nat) (K : Nat) (C : Nat) (nt : Nat) (hOI : OI (O 0) N K C nt) (sz : Nat) : Met l yL_call wsL_call ({ frames := 10, cells := 4, slots := 24, locals := 215 } : Room) (va_Pc [.ref (v 0), .int (34), .int (e0), .int (e1), .int (e2), .int (e3), .int (e4)] (LWP D T aK aV (WIN T v B O g ln un nx pl f0 f1 f2) sz)) (va_Qi (fun r9 (_ : Unit) => r9 = kE ((firstC (O 0) ((O 0) 0 0) N).elim 0 nI) (chkB ((firstC (O 0) ((O 0) 0 0) N).isSome) "java/util/NoSuchElementException")) (fun _ t => QS D T (va_A (WIN T v B O g ln un nx pl f0 f1 f2) sz) (WIN T v B O g ln un nx pl f0 f1 f2) t) (va_A (WIN T v B O g ln un nx pl f0 f1 f2) sz)) 4 24 (va_A (WIN T v B O g ln un nx pl f0 f1 f2) sz) := by
  refine metLi (cc := cL_call) (maxL := 8) (by decide) rfl (Nat.le_of_ble_eq_true rfl) ?_
  intro p e s m args below meth c Q ls A hx hb hml hown hts htab hNC hC hP hK hD hA hS hl hret
  have hown : s.vm.findClass RL = some m.cls := hown
  have hl : lv_has ls 8 [(0, .ref (v 0)), (1, .int (34)), (2, .int (e0)), (3, .int (e1)), (4, .int (e2)), (5, .int (e3)), (6, .int (e4))] := hl
  have w151 := hts (Cond.classLink RL 151 "java/util/NoSuchElementException") (List.mem_cons_of_mem _ (gT_of mw_646 rfl))
  have w155 := hts (Cond.classLink RL 155 "java/lang/IllegalStateException") (List.mem_cons_of_mem _ (gT_of mw_1186 rfl))
  have w157 := hts (Cond.classLink RL 157 "java/lang/IllegalArgumentException") (List.mem_cons_of_mem _ (gT_of mw_1187 rfl))
  have w159 := hts (Cond.classLink RL 159 "java/lang/IndexOutOfBoundsException") (List.mem_cons_of_mem _ (gT_of mw_1188 rfl))
  refine lv_iload_n hx hb dL_call_0 rfl (lv_at hl 1 rfl) ?_
  refine lv_tableIn (off := 447) (tgt := 448) hx hb dL_call_1 (by decide) (by decide) (by decide) (by decide) ?_
  refine lv_aload_n hx hb dL_call_448 rfl (lv_at hl 0 rfl) ?_
  refine wxVi (As := []) (rest := []) ⟨hx, hb, hml, hown, hts⟩ (c_X9_oldest l hl9 D T aK aV v B O g ln un nx pl f0 f1 f2 N K C nt hOI _) (cwV 0 hts (gC gl_X9_oldest) rfl rfl rfl (by decide +kernel) ⟨Nat.le_of_ble_eq_true rfl, Nat.le_of_ble_eq_true rfl⟩) (Foc.rfl _ _) (Foc.rfl _ _) hC hK hP hD hS hA 0 rfl rfl rfl hl.1 rfl (Nat.le_of_ble_eq_true rfl) ⟨Nat.le_of_ble_eq_true rfl, Nat.le_of_ble_eq_true rfl⟩ dL_call_449 (fun E ce q9 H locs hE hP hD hS hce hcv hcl => ?_) (fun H locs hE hP hD hS => ?_)
  ·
    have hEx : E = "java/util/NoSuchElementException" := (one_chk (P := fun E => E = "java/util/NoSuchElementException") (rfl)) E hE
    subst hEx
    refine catL hown htab hNC hC.2.2.2.2 w151 w155 w157 w159 34 (448, 452, 519, 151) rfl rfl (by decide) (by decide +kernel) hce hcv hcl ?_
    refine lv_astore (lv' := [(7, .ref (q9)), (0, .ref (v 0)), (1, .int (34)), (2, .int (e0)), (3, .int (e1)), (4, .int (e2)), (5, .int (e3)), (6, .int (e4))]) hx hb dL_call_519 hl (by decide) rfl (fun ls hl => ?_)
    refine lv_bipush (v := -101) hx hb dL_call_521 (by decide) ?_
    refine endI (r := kE ((firstC (O 0) ((O 0) 0 0) N).elim 0 nI) (chkB ((firstC (O 0) ((O 0) 0 0) N).isSome) "java/util/NoSuchElementException")) (by rw [hE]; rfl) ?_
    exact hret _ _ _ _ _ _ dL_call_523 hP hD hS (by decide) (by decide)
  ·
    have hE1 : kE ((firstC (O 0) ((O 0) 0 0) N).elim 0 nI) (chkB ((firstC (O 0) ((O 0) 0 0) N).isSome) "java/util/NoSuchElementException") = (firstC (O 0) ((O 0) 0 0) N).elim 0 nI := by rw [hE]; rfl
    refine endI (r := kE ((firstC (O 0) ((O 0) 0 0) N).elim 0 nI) (chkB ((firstC (O 0) ((O 0) 0 0) N).isSome) "java/util/NoSuchElementException")) hE1.symm ?_
    exact hret _ _ _ _ _ _ dL_call_452 hP hD hS (by decide) (by decide)

set_option maxHeartbeats 4000000 in
set_option maxRecDepth 100000 in
theorem c_call_35 (l : Launch) (hl9 : l.stackTraces = false) (D : va_G) (T : Nat → ClassId) (aK aV : Nat → Nat) (v : Nat → Nat) (B : Nat → Nat → Nat) (O : Nat → Nat → Nat → Int32) (g : CSt) (ln un nx pl : Nat) (f0 f1 f2 : Nat → Int32) (e0 : Int32) (e1 : Int32) (e2 : Int32) (e3 : Int32) (e4 : Int32) (N : Nat) (K : Nat) (C : Nat) (nt : Nat) (hOI : OI (O 0) N K C nt) (sz : Nat) : Met l yL_call wsL_call ({ frames := 10, cells := 4, slots := 24, locals := 215 } : Room) (va_Pc [.ref (v 0), .int (35), .int (e0), .int (e1), .int (e2), .int (e3), .int (e4)] (LWP D T aK aV (WIN T v B O g ln un nx pl f0 f1 f2) sz)) (va_Qi (fun r9 (_ : Unit) => r9 = kE ((mostC (O 0) 15 N).elim 0 nI) (chkB ((mostC (O 0) 15 N).isSome) "java/util/NoSuchElementException")) (fun _ t => QS D T (va_A (WIN T v B O g ln un nx pl f0 f1 f2) sz) (WIN T v B O g ln un nx pl f0 f1 f2) t) (va_A (WIN T v B O g ln un nx pl f0 f1 f2) sz)) 4 24 (va_A (WIN T v B O g ln un nx pl f0 f1 f2) sz) := by
  refine metLi (cc := cL_call) (maxL := 8) (by decide) rfl (Nat.le_of_ble_eq_true rfl) ?_
  intro p e s m args below meth c Q ls A hx hb hml hown hts htab hNC hC hP hK hD hA hS hl hret
  have hown : s.vm.findClass RL = some m.cls := hown
  have hl : lv_has ls 8 [(0, .ref (v 0)), (1, .int (35)), (2, .int (e0)), (3, .int (e1)), (4, .int (e2)), (5, .int (e3)), (6, .int (e4))] := hl
  have w151 := hts (Cond.classLink RL 151 "java/util/NoSuchElementException") (List.mem_cons_of_mem _ (gT_of mw_646 rfl))
  have w155 := hts (Cond.classLink RL 155 "java/lang/IllegalStateException") (List.mem_cons_of_mem _ (gT_of mw_1186 rfl))
  have w157 := hts (Cond.classLink RL 157 "java/lang/IllegalArgumentException") (List.mem_cons_of_mem _ (gT_of mw_1187 rfl))
  have w159 := hts (Cond.classLink RL 159 "java/lang/IndexOutOfBoundsException") (List.mem_cons_of_mem _ (gT_of mw_1188 rfl))
  refine lv_iload_n hx hb dL_call_0 rfl (lv_at hl 1 rfl) ?_
  refine lv_tableIn (off := 452) (tgt := 453) hx hb dL_call_1 (by decide) (by decide) (by decide) (by decide) ?_
  refine lv_aload_n hx hb dL_call_453 rfl (lv_at hl 0 rfl) ?_
  refine wxVi (As := []) (rest := []) ⟨hx, hb, hml, hown, hts⟩ (c_X9_angriest l hl9 D T aK aV v B O g ln un nx pl f0 f1 f2 N K C nt hOI _) (cwV 0 hts (gC gl_X9_angriest) rfl rfl rfl (by decide +kernel) ⟨Nat.le_of_ble_eq_true rfl, Nat.le_of_ble_eq_true rfl⟩) (Foc.rfl _ _) (Foc.rfl _ _) hC hK hP hD hS hA 0 rfl rfl rfl hl.1 rfl (Nat.le_of_ble_eq_true rfl) ⟨Nat.le_of_ble_eq_true rfl, Nat.le_of_ble_eq_true rfl⟩ dL_call_454 (fun E ce q9 H locs hE hP hD hS hce hcv hcl => ?_) (fun H locs hE hP hD hS => ?_)
  ·
    have hEx : E = "java/util/NoSuchElementException" := (one_chk (P := fun E => E = "java/util/NoSuchElementException") (rfl)) E hE
    subst hEx
    refine catL hown htab hNC hC.2.2.2.2 w151 w155 w157 w159 35 (453, 457, 519, 151) rfl rfl (by decide) (by decide +kernel) hce hcv hcl ?_
    refine lv_astore (lv' := [(7, .ref (q9)), (0, .ref (v 0)), (1, .int (35)), (2, .int (e0)), (3, .int (e1)), (4, .int (e2)), (5, .int (e3)), (6, .int (e4))]) hx hb dL_call_519 hl (by decide) rfl (fun ls hl => ?_)
    refine lv_bipush (v := -101) hx hb dL_call_521 (by decide) ?_
    refine endI (r := kE ((mostC (O 0) 15 N).elim 0 nI) (chkB ((mostC (O 0) 15 N).isSome) "java/util/NoSuchElementException")) (by rw [hE]; rfl) ?_
    exact hret _ _ _ _ _ _ dL_call_523 hP hD hS (by decide) (by decide)
  ·
    have hE1 : kE ((mostC (O 0) 15 N).elim 0 nI) (chkB ((mostC (O 0) 15 N).isSome) "java/util/NoSuchElementException") = (mostC (O 0) 15 N).elim 0 nI := by rw [hE]; rfl
    refine endI (r := kE ((mostC (O 0) 15 N).elim 0 nI) (chkB ((mostC (O 0) 15 N).isSome) "java/util/NoSuchElementException")) hE1.symm ?_
    exact hret _ _ _ _ _ _ dL_call_457 hP hD hS (by decide) (by decide)

set_option maxHeartbeats 4000000 in
set_option maxRecDepth 100000 in
theorem c_call_36 (l : Launch) (hl9 : l.stackTraces = false) (D : va_G) (T : Nat → ClassId) (aK aV : Nat → Nat) (v : Nat → Nat) (B : Nat → Nat → Nat) (O : Nat → Nat → Nat → Int32) (g : CSt) (ln un nx pl : Nat) (f0 f1 f2 : Nat → Int32) (z : Int32) (e0 : Int32) (e1 : Int32) (e2 : Int32) (e3 : Int32) (N : Nat) (K : Nat) (C : Nat) (nt : Nat) (hOI : OI (O 0) N K C nt) (sz : Nat) : Met l yL_call wsL_call ({ frames := 10, cells := 4, slots := 24, locals := 215 } : Room) (va_Pc [.ref (v 0), .int (36), .int (z), .int (e0), .int (e1), .int (e2), .int (e3)] (LWP D T aK aV (WIN T v B O g ln un nx pl f0 f1 f2) sz)) (va_Qi (fun r9 (_ : Unit) => r9 = kE (cntI (fun k => decide ((O 0) 4 k = z)) N 0 0) (chkB (rg z 0 99) "java/lang/IllegalArgumentException")) (fun _ t => QS D T (va_A (WIN T v B O g ln un nx pl f0 f1 f2) sz) (WIN T v B O g ln un nx pl f0 f1 f2) t) (va_A (WIN T v B O g ln un nx pl f0 f1 f2) sz)) 4 24 (va_A (WIN T v B O g ln un nx pl f0 f1 f2) sz) := by
  refine metLi (cc := cL_call) (maxL := 8) (by decide) rfl (Nat.le_of_ble_eq_true rfl) ?_
  intro p e s m args below meth c Q ls A hx hb hml hown hts htab hNC hC hP hK hD hA hS hl hret
  have hown : s.vm.findClass RL = some m.cls := hown
  have hl : lv_has ls 8 [(0, .ref (v 0)), (1, .int (36)), (2, .int (z)), (3, .int (e0)), (4, .int (e1)), (5, .int (e2)), (6, .int (e3))] := hl
  have w151 := hts (Cond.classLink RL 151 "java/util/NoSuchElementException") (List.mem_cons_of_mem _ (gT_of mw_646 rfl))
  have w155 := hts (Cond.classLink RL 155 "java/lang/IllegalStateException") (List.mem_cons_of_mem _ (gT_of mw_1186 rfl))
  have w157 := hts (Cond.classLink RL 157 "java/lang/IllegalArgumentException") (List.mem_cons_of_mem _ (gT_of mw_1187 rfl))
  have w159 := hts (Cond.classLink RL 159 "java/lang/IndexOutOfBoundsException") (List.mem_cons_of_mem _ (gT_of mw_1188 rfl))
  refine lv_iload_n hx hb dL_call_0 rfl (lv_at hl 1 rfl) ?_
  refine lv_tableIn (off := 457) (tgt := 458) hx hb dL_call_1 (by decide) (by decide) (by decide) (by decide) ?_
  refine lv_aload_n hx hb dL_call_458 rfl (lv_at hl 0 rfl) ?_
  refine lv_iload_n hx hb dL_call_459 rfl (lv_at hl 2 rfl) ?_
  refine wxVi (As := [.int (z)]) (rest := []) ⟨hx, hb, hml, hown, hts⟩ (c_X9_complaintsOf l hl9 D T aK aV v B O g ln un nx pl f0 f1 f2 z N K C nt hOI _) (cwV 1 hts (gC gl_X9_complaintsOf) rfl rfl rfl (by decide +kernel) ⟨Nat.le_of_ble_eq_true rfl, Nat.le_of_ble_eq_true rfl⟩) (Foc.rfl _ _) (Foc.rfl _ _) hC hK hP hD hS hA 0 rfl rfl rfl hl.1 rfl (Nat.le_of_ble_eq_true rfl) ⟨Nat.le_of_ble_eq_true rfl, Nat.le_of_ble_eq_true rfl⟩ dL_call_460 (fun E ce q9 H locs hE hP hD hS hce hcv hcl => ?_) (fun H locs hE hP hD hS => ?_)
  ·
    have hEx : E = "java/lang/IllegalArgumentException" := (one_chk (P := fun E => E = "java/lang/IllegalArgumentException") (rfl)) E hE
    subst hEx
    refine catL hown htab hNC hC.2.2.2.2 w151 w155 w157 w159 126 (458, 463, 529, 157) rfl rfl (by decide) (by decide +kernel) hce hcv hcl ?_
    refine lv_astore (lv' := [(7, .ref (q9)), (0, .ref (v 0)), (1, .int (36)), (2, .int (z)), (3, .int (e0)), (4, .int (e1)), (5, .int (e2)), (6, .int (e3))]) hx hb dL_call_529 hl (by decide) rfl (fun ls hl => ?_)
    refine lv_bipush (v := -103) hx hb dL_call_531 (by decide) ?_
    refine endI (r := kE (cntI (fun k => decide ((O 0) 4 k = z)) N 0 0) (chkB (rg z 0 99) "java/lang/IllegalArgumentException")) (by rw [hE]; rfl) ?_
    exact hret _ _ _ _ _ _ dL_call_533 hP hD hS (by decide) (by decide)
  ·
    have hE1 : kE (cntI (fun k => decide ((O 0) 4 k = z)) N 0 0) (chkB (rg z 0 99) "java/lang/IllegalArgumentException") = cntI (fun k => decide ((O 0) 4 k = z)) N 0 0 := by rw [hE]; rfl
    refine endI (r := kE (cntI (fun k => decide ((O 0) 4 k = z)) N 0 0) (chkB (rg z 0 99) "java/lang/IllegalArgumentException")) hE1.symm ?_
    exact hret _ _ _ _ _ _ dL_call_463 hP hD hS (by decide) (by decide)

set_option maxHeartbeats 4000000 in
set_option maxRecDepth 100000 in
theorem c_call_37 (l : Launch) (hl9 : l.stackTraces = false) (D : va_G) (T : Nat → ClassId) (aK aV : Nat → Nat) (v : Nat → Nat) (B : Nat → Nat → Nat) (O : Nat → Nat → Nat → Int32) (g : CSt) (ln un nx pl : Nat) (f0 f1 f2 : Nat → Int32) (e0 : Int32) (e1 : Int32) (e2 : Int32) (e3 : Int32) (e4 : Int32) (N : Nat) (K : Nat) (C : Nat) (nt : Nat) (hOI : OI (O 0) N K C nt) (sz : Nat) : Met l yL_call wsL_call ({ frames := 10, cells := 4, slots := 24, locals := 215 } : Room) (va_Pc [.ref (v 0), .int (37), .int (e0), .int (e1), .int (e2), .int (e3), .int (e4)] (LWP D T aK aV (WIN T v B O g ln un nx pl f0 f1 f2) sz)) (va_Qi (fun r9 (_ : Unit) => r9 = kE (((minF (fun _ => true) ((O 0) 3) K 0 (none, 100)).1).elim 0 nI) (chkB (((minF (fun _ => true) ((O 0) 3) K 0 (none, 100)).1).isSome) "java/util/NoSuchElementException")) (fun _ t => QS D T (va_A (WIN T v B O g ln un nx pl f0 f1 f2) sz) (WIN T v B O g ln un nx pl f0 f1 f2) t) (va_A (WIN T v B O g ln un nx pl f0 f1 f2) sz)) 4 24 (va_A (WIN T v B O g ln un nx pl f0 f1 f2) sz) := by
  refine metLi (cc := cL_call) (maxL := 8) (by decide) rfl (Nat.le_of_ble_eq_true rfl) ?_
  intro p e s m args below meth c Q ls A hx hb hml hown hts htab hNC hC hP hK hD hA hS hl hret
  have hown : s.vm.findClass RL = some m.cls := hown
  have hl : lv_has ls 8 [(0, .ref (v 0)), (1, .int (37)), (2, .int (e0)), (3, .int (e1)), (4, .int (e2)), (5, .int (e3)), (6, .int (e4))] := hl
  have w151 := hts (Cond.classLink RL 151 "java/util/NoSuchElementException") (List.mem_cons_of_mem _ (gT_of mw_646 rfl))
  have w155 := hts (Cond.classLink RL 155 "java/lang/IllegalStateException") (List.mem_cons_of_mem _ (gT_of mw_1186 rfl))
  have w157 := hts (Cond.classLink RL 157 "java/lang/IllegalArgumentException") (List.mem_cons_of_mem _ (gT_of mw_1187 rfl))
  have w159 := hts (Cond.classLink RL 159 "java/lang/IndexOutOfBoundsException") (List.mem_cons_of_mem _ (gT_of mw_1188 rfl))
  refine lv_iload_n hx hb dL_call_0 rfl (lv_at hl 1 rfl) ?_
  refine lv_tableIn (off := 463) (tgt := 464) hx hb dL_call_1 (by decide) (by decide) (by decide) (by decide) ?_
  refine lv_aload_n hx hb dL_call_464 rfl (lv_at hl 0 rfl) ?_
  refine wxVi (As := []) (rest := []) ⟨hx, hb, hml, hown, hts⟩ (c_X9_darkestClerk l hl9 D T aK aV v B O g ln un nx pl f0 f1 f2 N K C nt hOI _) (cwV 0 hts (gC gl_X9_darkestClerk) rfl rfl rfl (by decide +kernel) ⟨Nat.le_of_ble_eq_true rfl, Nat.le_of_ble_eq_true rfl⟩) (Foc.rfl _ _) (Foc.rfl _ _) hC hK hP hD hS hA 0 rfl rfl rfl hl.1 rfl (Nat.le_of_ble_eq_true rfl) ⟨Nat.le_of_ble_eq_true rfl, Nat.le_of_ble_eq_true rfl⟩ dL_call_465 (fun E ce q9 H locs hE hP hD hS hce hcv hcl => ?_) (fun H locs hE hP hD hS => ?_)
  ·
    have hEx : E = "java/util/NoSuchElementException" := (one_chk (P := fun E => E = "java/util/NoSuchElementException") (rfl)) E hE
    subst hEx
    refine catL hown htab hNC hC.2.2.2.2 w151 w155 w157 w159 37 (464, 468, 519, 151) rfl rfl (by decide) (by decide +kernel) hce hcv hcl ?_
    refine lv_astore (lv' := [(7, .ref (q9)), (0, .ref (v 0)), (1, .int (37)), (2, .int (e0)), (3, .int (e1)), (4, .int (e2)), (5, .int (e3)), (6, .int (e4))]) hx hb dL_call_519 hl (by decide) rfl (fun ls hl => ?_)
    refine lv_bipush (v := -101) hx hb dL_call_521 (by decide) ?_
    refine endI (r := kE (((minF (fun _ => true) ((O 0) 3) K 0 (none, 100)).1).elim 0 nI) (chkB (((minF (fun _ => true) ((O 0) 3) K 0 (none, 100)).1).isSome) "java/util/NoSuchElementException")) (by rw [hE]; rfl) ?_
    exact hret _ _ _ _ _ _ dL_call_523 hP hD hS (by decide) (by decide)
  ·
    have hE1 : kE (((minF (fun _ => true) ((O 0) 3) K 0 (none, 100)).1).elim 0 nI) (chkB (((minF (fun _ => true) ((O 0) 3) K 0 (none, 100)).1).isSome) "java/util/NoSuchElementException") = ((minF (fun _ => true) ((O 0) 3) K 0 (none, 100)).1).elim 0 nI := by rw [hE]; rfl
    refine endI (r := kE (((minF (fun _ => true) ((O 0) 3) K 0 (none, 100)).1).elim 0 nI) (chkB (((minF (fun _ => true) ((O 0) 3) K 0 (none, 100)).1).isSome) "java/util/NoSuchElementException")) hE1.symm ?_
    exact hret _ _ _ _ _ _ dL_call_468 hP hD hS (by decide) (by decide)

set_option maxHeartbeats 4000000 in
set_option maxRecDepth 100000 in
theorem c_call_38 (l : Launch) (hl9 : l.stackTraces = false) (D : va_G) (T : Nat → ClassId) (aK aV : Nat → Nat) (v : Nat → Nat) (B : Nat → Nat → Nat) (O : Nat → Nat → Nat → Int32) (g : CSt) (ln un nx pl : Nat) (f0 f1 f2 : Nat → Int32) (z : Int32) (e0 : Int32) (e1 : Int32) (e2 : Int32) (e3 : Int32) (N : Nat) (K : Nat) (C : Nat) (nt : Nat) (hOI : OI (O 0) N K C nt) (sz : Nat) : Met l yL_call wsL_call ({ frames := 10, cells := 4, slots := 24, locals := 215 } : Room) (va_Pc [.ref (v 0), .int (38), .int (z), .int (e0), .int (e1), .int (e2), .int (e3)] (LWP D T aK aV (WIN T v B O g ln un nx pl f0 f1 f2) sz)) (va_Qi (fun r9 (_ : Unit) => r9 = kE ((O 0) 2 z.toNatClampNeg) (chkB (inN z K) "java/lang/IndexOutOfBoundsException")) (fun _ t => QS D T (va_A (WIN T v B O g ln un nx pl f0 f1 f2) sz) (WIN T v B O g ln un nx pl f0 f1 f2) t) (va_A (WIN T v B O g ln un nx pl f0 f1 f2) sz)) 4 24 (va_A (WIN T v B O g ln un nx pl f0 f1 f2) sz) := by
  refine metLi (cc := cL_call) (maxL := 8) (by decide) rfl (Nat.le_of_ble_eq_true rfl) ?_
  intro p e s m args below meth c Q ls A hx hb hml hown hts htab hNC hC hP hK hD hA hS hl hret
  have hown : s.vm.findClass RL = some m.cls := hown
  have hl : lv_has ls 8 [(0, .ref (v 0)), (1, .int (38)), (2, .int (z)), (3, .int (e0)), (4, .int (e1)), (5, .int (e2)), (6, .int (e3))] := hl
  have w151 := hts (Cond.classLink RL 151 "java/util/NoSuchElementException") (List.mem_cons_of_mem _ (gT_of mw_646 rfl))
  have w155 := hts (Cond.classLink RL 155 "java/lang/IllegalStateException") (List.mem_cons_of_mem _ (gT_of mw_1186 rfl))
  have w157 := hts (Cond.classLink RL 157 "java/lang/IllegalArgumentException") (List.mem_cons_of_mem _ (gT_of mw_1187 rfl))
  have w159 := hts (Cond.classLink RL 159 "java/lang/IndexOutOfBoundsException") (List.mem_cons_of_mem _ (gT_of mw_1188 rfl))
  refine lv_iload_n hx hb dL_call_0 rfl (lv_at hl 1 rfl) ?_
  refine lv_tableIn (off := 468) (tgt := 469) hx hb dL_call_1 (by decide) (by decide) (by decide) (by decide) ?_
  refine lv_aload_n hx hb dL_call_469 rfl (lv_at hl 0 rfl) ?_
  refine lv_iload_n hx hb dL_call_470 rfl (lv_at hl 2 rfl) ?_
  refine wxVi (As := [.int (z)]) (rest := []) ⟨hx, hb, hml, hown, hts⟩ (c_X9_skillOf l hl9 D T aK aV v B O g ln un nx pl f0 f1 f2 z N K C nt hOI _) (cwV 1 hts (gC gl_X9_skillOf) rfl rfl rfl (by decide +kernel) ⟨Nat.le_of_ble_eq_true rfl, Nat.le_of_ble_eq_true rfl⟩) (Foc.rfl _ _) (Foc.rfl _ _) hC hK hP hD hS hA 0 rfl rfl rfl hl.1 rfl (Nat.le_of_ble_eq_true rfl) ⟨Nat.le_of_ble_eq_true rfl, Nat.le_of_ble_eq_true rfl⟩ dL_call_471 (fun E ce q9 H locs hE hP hD hS hce hcv hcl => ?_) (fun H locs hE hP hD hS => ?_)
  ·
    have hEx : E = "java/lang/IndexOutOfBoundsException" := (one_chk (P := fun E => E = "java/lang/IndexOutOfBoundsException") (rfl)) E hE
    subst hEx
    refine catL hown htab hNC hC.2.2.2.2 w151 w155 w157 w159 173 (469, 474, 534, 159) rfl rfl (by decide) (by decide +kernel) hce hcv hcl ?_
    refine lv_astore (lv' := [(7, .ref (q9)), (0, .ref (v 0)), (1, .int (38)), (2, .int (z)), (3, .int (e0)), (4, .int (e1)), (5, .int (e2)), (6, .int (e3))]) hx hb dL_call_534 hl (by decide) rfl (fun ls hl => ?_)
    refine lv_bipush (v := -104) hx hb dL_call_536 (by decide) ?_
    refine endI (r := kE ((O 0) 2 z.toNatClampNeg) (chkB (inN z K) "java/lang/IndexOutOfBoundsException")) (by rw [hE]; rfl) ?_
    exact hret _ _ _ _ _ _ dL_call_538 hP hD hS (by decide) (by decide)
  ·
    have hE1 : kE ((O 0) 2 z.toNatClampNeg) (chkB (inN z K) "java/lang/IndexOutOfBoundsException") = (O 0) 2 z.toNatClampNeg := by rw [hE]; rfl
    refine endI (r := kE ((O 0) 2 z.toNatClampNeg) (chkB (inN z K) "java/lang/IndexOutOfBoundsException")) hE1.symm ?_
    exact hret _ _ _ _ _ _ dL_call_474 hP hD hS (by decide) (by decide)

set_option maxHeartbeats 4000000 in
set_option maxRecDepth 100000 in
theorem c_call_39 (l : Launch) (hl9 : l.stackTraces = false) (D : va_G) (T : Nat → ClassId) (aK aV : Nat → Nat) (v : Nat → Nat) (B : Nat → Nat → Nat) (O : Nat → Nat → Nat → Int32) (g : CSt) (ln un nx pl : Nat) (f0 f1 f2 : Nat → Int32) (z : Int32) (e0 : Int32) (e1 : Int32) (e2 : Int32) (e3 : Int32) (N : Nat) (K : Nat) (C : Nat) (nt : Nat) (hOI : OI (O 0) N K C nt) (sz : Nat) : Met l yL_call wsL_call ({ frames := 10, cells := 4, slots := 24, locals := 215 } : Room) (va_Pc [.ref (v 0), .int (39), .int (z), .int (e0), .int (e1), .int (e2), .int (e3)] (LWP D T aK aV (WIN T v B O g ln un nx pl f0 f1 f2) sz)) (va_Qi (fun r9 (_ : Unit) => r9 = kE ((O 0) 3 z.toNatClampNeg) (chkB (inN z K) "java/lang/IndexOutOfBoundsException")) (fun _ t => QS D T (va_A (WIN T v B O g ln un nx pl f0 f1 f2) sz) (WIN T v B O g ln un nx pl f0 f1 f2) t) (va_A (WIN T v B O g ln un nx pl f0 f1 f2) sz)) 4 24 (va_A (WIN T v B O g ln un nx pl f0 f1 f2) sz) := by
  refine metLi (cc := cL_call) (maxL := 8) (by decide) rfl (Nat.le_of_ble_eq_true rfl) ?_
  intro p e s m args below meth c Q ls A hx hb hml hown hts htab hNC hC hP hK hD hA hS hl hret
  have hown : s.vm.findClass RL = some m.cls := hown
  have hl : lv_has ls 8 [(0, .ref (v 0)), (1, .int (39)), (2, .int (z)), (3, .int (e0)), (4, .int (e1)), (5, .int (e2)), (6, .int (e3))] := hl
  have w151 := hts (Cond.classLink RL 151 "java/util/NoSuchElementException") (List.mem_cons_of_mem _ (gT_of mw_646 rfl))
  have w155 := hts (Cond.classLink RL 155 "java/lang/IllegalStateException") (List.mem_cons_of_mem _ (gT_of mw_1186 rfl))
  have w157 := hts (Cond.classLink RL 157 "java/lang/IllegalArgumentException") (List.mem_cons_of_mem _ (gT_of mw_1187 rfl))
  have w159 := hts (Cond.classLink RL 159 "java/lang/IndexOutOfBoundsException") (List.mem_cons_of_mem _ (gT_of mw_1188 rfl))
  refine lv_iload_n hx hb dL_call_0 rfl (lv_at hl 1 rfl) ?_
  refine lv_tableIn (off := 474) (tgt := 475) hx hb dL_call_1 (by decide) (by decide) (by decide) (by decide) ?_
  refine lv_aload_n hx hb dL_call_475 rfl (lv_at hl 0 rfl) ?_
  refine lv_iload_n hx hb dL_call_476 rfl (lv_at hl 2 rfl) ?_
  refine wxVi (As := [.int (z)]) (rest := []) ⟨hx, hb, hml, hown, hts⟩ (c_X9_oilOf l hl9 D T aK aV v B O g ln un nx pl f0 f1 f2 z N K C nt hOI _) (cwV 1 hts (gC gl_X9_oilOf) rfl rfl rfl (by decide +kernel) ⟨Nat.le_of_ble_eq_true rfl, Nat.le_of_ble_eq_true rfl⟩) (Foc.rfl _ _) (Foc.rfl _ _) hC hK hP hD hS hA 0 rfl rfl rfl hl.1 rfl (Nat.le_of_ble_eq_true rfl) ⟨Nat.le_of_ble_eq_true rfl, Nat.le_of_ble_eq_true rfl⟩ dL_call_477 (fun E ce q9 H locs hE hP hD hS hce hcv hcl => ?_) (fun H locs hE hP hD hS => ?_)
  ·
    have hEx : E = "java/lang/IndexOutOfBoundsException" := (one_chk (P := fun E => E = "java/lang/IndexOutOfBoundsException") (rfl)) E hE
    subst hEx
    refine catL hown htab hNC hC.2.2.2.2 w151 w155 w157 w159 174 (475, 480, 534, 159) rfl rfl (by decide) (by decide +kernel) hce hcv hcl ?_
    refine lv_astore (lv' := [(7, .ref (q9)), (0, .ref (v 0)), (1, .int (39)), (2, .int (z)), (3, .int (e0)), (4, .int (e1)), (5, .int (e2)), (6, .int (e3))]) hx hb dL_call_534 hl (by decide) rfl (fun ls hl => ?_)
    refine lv_bipush (v := -104) hx hb dL_call_536 (by decide) ?_
    refine endI (r := kE ((O 0) 3 z.toNatClampNeg) (chkB (inN z K) "java/lang/IndexOutOfBoundsException")) (by rw [hE]; rfl) ?_
    exact hret _ _ _ _ _ _ dL_call_538 hP hD hS (by decide) (by decide)
  ·
    have hE1 : kE ((O 0) 3 z.toNatClampNeg) (chkB (inN z K) "java/lang/IndexOutOfBoundsException") = (O 0) 3 z.toNatClampNeg := by rw [hE]; rfl
    refine endI (r := kE ((O 0) 3 z.toNatClampNeg) (chkB (inN z K) "java/lang/IndexOutOfBoundsException")) hE1.symm ?_
    exact hret _ _ _ _ _ _ dL_call_480 hP hD hS (by decide) (by decide)

set_option maxHeartbeats 4000000 in
set_option maxRecDepth 100000 in
theorem c_call_40 (l : Launch) (hl9 : l.stackTraces = false) (D : va_G) (T : Nat → ClassId) (aK aV : Nat → Nat) (v : Nat → Nat) (B : Nat → Nat → Nat) (O : Nat → Nat → Nat → Int32) (g : CSt) (ln un nx pl : Nat) (f0 f1 f2 : Nat → Int32) (z : Int32) (e0 : Int32) (e1 : Int32) (e2 : Int32) (e3 : Int32) (N : Nat) (K : Nat) (C : Nat) (nt : Nat) (hOI : OI (O 0) N K C nt) (sz : Nat) : Met l yL_call wsL_call ({ frames := 10, cells := 4, slots := 24, locals := 215 } : Room) (va_Pc [.ref (v 0), .int (40), .int (z), .int (e0), .int (e1), .int (e2), .int (e3)] (LWP D T aK aV (WIN T v B O g ln un nx pl f0 f1 f2) sz)) (va_Qi (fun r9 (_ : Unit) => r9 = kE (cntI (fun k => decide ((O 0) 8 k = 1) && decide ((O 0) 10 k = z)) N 0 0) (chkB (inN z K) "java/lang/IndexOutOfBoundsException")) (fun _ t => QS D T (va_A (WIN T v B O g ln un nx pl f0 f1 f2) sz) (WIN T v B O g ln un nx pl f0 f1 f2) t) (va_A (WIN T v B O g ln un nx pl f0 f1 f2) sz)) 4 24 (va_A (WIN T v B O g ln un nx pl f0 f1 f2) sz) := by
  refine metLi (cc := cL_call) (maxL := 8) (by decide) rfl (Nat.le_of_ble_eq_true rfl) ?_
  intro p e s m args below meth c Q ls A hx hb hml hown hts htab hNC hC hP hK hD hA hS hl hret
  have hown : s.vm.findClass RL = some m.cls := hown
  have hl : lv_has ls 8 [(0, .ref (v 0)), (1, .int (40)), (2, .int (z)), (3, .int (e0)), (4, .int (e1)), (5, .int (e2)), (6, .int (e3))] := hl
  have w151 := hts (Cond.classLink RL 151 "java/util/NoSuchElementException") (List.mem_cons_of_mem _ (gT_of mw_646 rfl))
  have w155 := hts (Cond.classLink RL 155 "java/lang/IllegalStateException") (List.mem_cons_of_mem _ (gT_of mw_1186 rfl))
  have w157 := hts (Cond.classLink RL 157 "java/lang/IllegalArgumentException") (List.mem_cons_of_mem _ (gT_of mw_1187 rfl))
  have w159 := hts (Cond.classLink RL 159 "java/lang/IndexOutOfBoundsException") (List.mem_cons_of_mem _ (gT_of mw_1188 rfl))
  refine lv_iload_n hx hb dL_call_0 rfl (lv_at hl 1 rfl) ?_
  refine lv_tableIn (off := 480) (tgt := 481) hx hb dL_call_1 (by decide) (by decide) (by decide) (by decide) ?_
  refine lv_aload_n hx hb dL_call_481 rfl (lv_at hl 0 rfl) ?_
  refine lv_iload_n hx hb dL_call_482 rfl (lv_at hl 2 rfl) ?_
  refine wxVi (As := [.int (z)]) (rest := []) ⟨hx, hb, hml, hown, hts⟩ (c_X9_answeredBy l hl9 D T aK aV v B O g ln un nx pl f0 f1 f2 z N K C nt hOI _) (cwV 1 hts (gC gl_X9_answeredBy) rfl rfl rfl (by decide +kernel) ⟨Nat.le_of_ble_eq_true rfl, Nat.le_of_ble_eq_true rfl⟩) (Foc.rfl _ _) (Foc.rfl _ _) hC hK hP hD hS hA 0 rfl rfl rfl hl.1 rfl (Nat.le_of_ble_eq_true rfl) ⟨Nat.le_of_ble_eq_true rfl, Nat.le_of_ble_eq_true rfl⟩ dL_call_483 (fun E ce q9 H locs hE hP hD hS hce hcv hcl => ?_) (fun H locs hE hP hD hS => ?_)
  ·
    have hEx : E = "java/lang/IndexOutOfBoundsException" := (one_chk (P := fun E => E = "java/lang/IndexOutOfBoundsException") (rfl)) E hE
    subst hEx
    refine catL hown htab hNC hC.2.2.2.2 w151 w155 w157 w159 175 (481, 486, 534, 159) rfl rfl (by decide) (by decide +kernel) hce hcv hcl ?_
    refine lv_astore (lv' := [(7, .ref (q9)), (0, .ref (v 0)), (1, .int (40)), (2, .int (z)), (3, .int (e0)), (4, .int (e1)), (5, .int (e2)), (6, .int (e3))]) hx hb dL_call_534 hl (by decide) rfl (fun ls hl => ?_)
    refine lv_bipush (v := -104) hx hb dL_call_536 (by decide) ?_
    refine endI (r := kE (cntI (fun k => decide ((O 0) 8 k = 1) && decide ((O 0) 10 k = z)) N 0 0) (chkB (inN z K) "java/lang/IndexOutOfBoundsException")) (by rw [hE]; rfl) ?_
    exact hret _ _ _ _ _ _ dL_call_538 hP hD hS (by decide) (by decide)
  ·
    have hE1 : kE (cntI (fun k => decide ((O 0) 8 k = 1) && decide ((O 0) 10 k = z)) N 0 0) (chkB (inN z K) "java/lang/IndexOutOfBoundsException") = cntI (fun k => decide ((O 0) 8 k = 1) && decide ((O 0) 10 k = z)) N 0 0 := by rw [hE]; rfl
    refine endI (r := kE (cntI (fun k => decide ((O 0) 8 k = 1) && decide ((O 0) 10 k = z)) N 0 0) (chkB (inN z K) "java/lang/IndexOutOfBoundsException")) hE1.symm ?_
    exact hret _ _ _ _ _ _ dL_call_486 hP hD hS (by decide) (by decide)

set_option maxHeartbeats 4000000 in
set_option maxRecDepth 100000 in
theorem c_call_41 (l : Launch) (hl9 : l.stackTraces = false) (D : va_G) (T : Nat → ClassId) (aK aV : Nat → Nat) (v : Nat → Nat) (B : Nat → Nat → Nat) (O : Nat → Nat → Nat → Int32) (g : CSt) (ln un nx pl : Nat) (f0 f1 f2 : Nat → Int32) (z : Int32) (e0 : Int32) (e1 : Int32) (e2 : Int32) (e3 : Int32) (N : Nat) (K : Nat) (C : Nat) (nt : Nat) (hOI : OI (O 0) N K C nt) (hnt2 : nt < 2 ^ 17) (sz : Nat) : Met l yL_call wsL_call ({ frames := 10, cells := 4, slots := 24, locals := 215 } : Room) (va_Pc [.ref (v 0), .int (41), .int (z), .int (e0), .int (e1), .int (e2), .int (e3)] (LWP D T aK aV (WIN T v B O g ln un nx pl f0 f1 f2) sz)) (va_Qi (fun r9 (_ : Unit) => r9 = kE (nI (cUntil N K C z.toNatClampNeg 56 nt (O 0)).1) (orE (chkB (inN z N) "java/lang/IndexOutOfBoundsException") (chkB (decide ((O 0) 8 z.toNatClampNeg = 0)) "java/lang/IllegalStateException"))) (fun _ t => QS D T (va_A (WIN T v B O g ln un nx pl f0 f1 f2) sz) (wC (WIN T v B (va_up O 1 ((cUntil N K C z.toNatClampNeg 56 nt (O 0)).2)) g ln un nx pl f0 f1 f2) (WIN T v B O g ln un nx pl f0 f1 f2) (orE (chkB (inN z N) "java/lang/IndexOutOfBoundsException") (chkB (decide ((O 0) 8 z.toNatClampNeg = 0)) "java/lang/IllegalStateException"))) t) (va_A (WIN T v B O g ln un nx pl f0 f1 f2) sz)) 4 24 (va_A (WIN T v B O g ln un nx pl f0 f1 f2) sz) := by
  refine metLi (cc := cL_call) (maxL := 8) (by decide) rfl (Nat.le_of_ble_eq_true rfl) ?_
  intro p e s m args below meth c Q ls A hx hb hml hown hts htab hNC hC hP hK hD hA hS hl hret
  have hown : s.vm.findClass RL = some m.cls := hown
  have hl : lv_has ls 8 [(0, .ref (v 0)), (1, .int (41)), (2, .int (z)), (3, .int (e0)), (4, .int (e1)), (5, .int (e2)), (6, .int (e3))] := hl
  have w151 := hts (Cond.classLink RL 151 "java/util/NoSuchElementException") (List.mem_cons_of_mem _ (gT_of mw_646 rfl))
  have w155 := hts (Cond.classLink RL 155 "java/lang/IllegalStateException") (List.mem_cons_of_mem _ (gT_of mw_1186 rfl))
  have w157 := hts (Cond.classLink RL 157 "java/lang/IllegalArgumentException") (List.mem_cons_of_mem _ (gT_of mw_1187 rfl))
  have w159 := hts (Cond.classLink RL 159 "java/lang/IndexOutOfBoundsException") (List.mem_cons_of_mem _ (gT_of mw_1188 rfl))
  refine lv_iload_n hx hb dL_call_0 rfl (lv_at hl 1 rfl) ?_
  refine lv_tableIn (off := 486) (tgt := 487) hx hb dL_call_1 (by decide) (by decide) (by decide) (by decide) ?_
  refine lv_aload_n hx hb dL_call_487 rfl (lv_at hl 0 rfl) ?_
  refine lv_iload_n hx hb dL_call_488 rfl (lv_at hl 2 rfl) ?_
  refine wxVi (As := [.int (z)]) (rest := []) ⟨hx, hb, hml, hown, hts⟩ (c_X9_nightsToClose l hl9 D T aK aV v B O g ln un nx pl f0 f1 f2 z N K C nt hOI hnt2 _) (cwV 1 hts (gC gl_X9_nightsToClose) rfl rfl rfl (by decide +kernel) ⟨Nat.le_of_ble_eq_true rfl, Nat.le_of_ble_eq_true rfl⟩) (Foc.rfl _ _) (Foc.rfl _ _) hC hK hP hD hS hA 0 rfl rfl rfl hl.1 rfl (Nat.le_of_ble_eq_true rfl) ⟨Nat.le_of_ble_eq_true rfl, Nat.le_of_ble_eq_true rfl⟩ dL_call_489 (fun E ce q9 H locs hE hP hD hS hce hcv hcl => ?_) (fun H locs hE hP hD hS => ?_)
  ·
    have hEx : E = "java/lang/IllegalStateException" ∨ E = "java/lang/IndexOutOfBoundsException" := (one_or (one_chk (P := fun E => E = "java/lang/IllegalStateException" ∨ E = "java/lang/IndexOutOfBoundsException") (Or.inr (rfl))) (one_chk (P := fun E => E = "java/lang/IllegalStateException" ∨ E = "java/lang/IndexOutOfBoundsException") (Or.inl rfl))) E hE
    rcases hEx with rfl | hEx
    ·
      refine catL hown htab hNC hC.2.2.2.2 w151 w155 w157 w159 86 (487, 492, 524, 155) rfl rfl (by decide) (by decide +kernel) hce hcv hcl ?_
      refine lv_astore (lv' := [(7, .ref (q9)), (0, .ref (v 0)), (1, .int (41)), (2, .int (z)), (3, .int (e0)), (4, .int (e1)), (5, .int (e2)), (6, .int (e3))]) hx hb dL_call_524 hl (by decide) rfl (fun ls hl => ?_)
      refine lv_bipush (v := -102) hx hb dL_call_526 (by decide) ?_
      refine endI (r := kE (nI (cUntil N K C z.toNatClampNeg 56 nt (O 0)).1) (orE (chkB (inN z N) "java/lang/IndexOutOfBoundsException") (chkB (decide ((O 0) 8 z.toNatClampNeg = 0)) "java/lang/IllegalStateException"))) (by rw [hE]; rfl) ?_
      exact hret _ _ _ _ _ _ dL_call_528 (by rw [hE]; exact hP) (by rw [hE]; exact hD) hS (by decide) (by decide)
    ·
      subst hEx
      refine catL hown htab hNC hC.2.2.2.2 w151 w155 w157 w159 176 (487, 492, 534, 159) rfl rfl (by decide) (by decide +kernel) hce hcv hcl ?_
      refine lv_astore (lv' := [(7, .ref (q9)), (0, .ref (v 0)), (1, .int (41)), (2, .int (z)), (3, .int (e0)), (4, .int (e1)), (5, .int (e2)), (6, .int (e3))]) hx hb dL_call_534 hl (by decide) rfl (fun ls hl => ?_)
      refine lv_bipush (v := -104) hx hb dL_call_536 (by decide) ?_
      refine endI (r := kE (nI (cUntil N K C z.toNatClampNeg 56 nt (O 0)).1) (orE (chkB (inN z N) "java/lang/IndexOutOfBoundsException") (chkB (decide ((O 0) 8 z.toNatClampNeg = 0)) "java/lang/IllegalStateException"))) (by rw [hE]; rfl) ?_
      exact hret _ _ _ _ _ _ dL_call_538 (by rw [hE]; exact hP) (by rw [hE]; exact hD) hS (by decide) (by decide)
  ·
    have hE1 : kE (nI (cUntil N K C z.toNatClampNeg 56 nt (O 0)).1) (orE (chkB (inN z N) "java/lang/IndexOutOfBoundsException") (chkB (decide ((O 0) 8 z.toNatClampNeg = 0)) "java/lang/IllegalStateException")) = nI (cUntil N K C z.toNatClampNeg 56 nt (O 0)).1 := by rw [hE]; rfl
    refine endI (r := kE (nI (cUntil N K C z.toNatClampNeg 56 nt (O 0)).1) (orE (chkB (inN z N) "java/lang/IndexOutOfBoundsException") (chkB (decide ((O 0) 8 z.toNatClampNeg = 0)) "java/lang/IllegalStateException"))) hE1.symm ?_
    exact hret _ _ _ _ _ _ dL_call_492 (by rw [hE]; exact hP) (by rw [hE]; exact hD) hS (by decide) (by decide)

set_option maxHeartbeats 4000000 in
set_option maxRecDepth 100000 in
theorem c_call_42 (l : Launch) (hl9 : l.stackTraces = false) (D : va_G) (T : Nat → ClassId) (aK aV : Nat → Nat) (v : Nat → Nat) (B : Nat → Nat → Nat) (O : Nat → Nat → Nat → Int32) (g : CSt) (ln un nx pl : Nat) (f0 f1 f2 : Nat → Int32) (z : Int32) (e0 : Int32) (e1 : Int32) (e2 : Int32) (e3 : Int32) (N : Nat) (K : Nat) (C : Nat) (nt : Nat) (hOI : OI (O 0) N K C nt) (hnt2 : nt < 2 ^ 17) (sz : Nat) : Met l yL_call wsL_call ({ frames := 10, cells := 4, slots := 24, locals := 215 } : Room) (va_Pc [.ref (v 0), .int (42), .int (z), .int (e0), .int (e1), .int (e2), .int (e3)] (LWP D T aK aV (WIN T v B O g ln un nx pl f0 f1 f2) sz)) (va_Qi (fun r9 (_ : Unit) => r9 = kE (bI (decide ((cUntil N K C z.toNatClampNeg 56 nt (O 0)).2 8 z.toNatClampNeg = 1))) (orE (chkB (inN z N) "java/lang/IndexOutOfBoundsException") (chkB (decide ((O 0) 8 z.toNatClampNeg = 0)) "java/lang/IllegalStateException"))) (fun _ t => QS D T (va_A (WIN T v B O g ln un nx pl f0 f1 f2) sz) (wC (WIN T v B (va_up O 1 ((cUntil N K C z.toNatClampNeg 56 nt (O 0)).2)) g ln un nx pl f0 f1 f2) (WIN T v B O g ln un nx pl f0 f1 f2) (orE (chkB (inN z N) "java/lang/IndexOutOfBoundsException") (chkB (decide ((O 0) 8 z.toNatClampNeg = 0)) "java/lang/IllegalStateException"))) t) (va_A (WIN T v B O g ln un nx pl f0 f1 f2) sz)) 4 24 (va_A (WIN T v B O g ln un nx pl f0 f1 f2) sz) := by
  refine metLi (cc := cL_call) (maxL := 8) (by decide) rfl (Nat.le_of_ble_eq_true rfl) ?_
  intro p e s m args below meth c Q ls A hx hb hml hown hts htab hNC hC hP hK hD hA hS hl hret
  have hown : s.vm.findClass RL = some m.cls := hown
  have hl : lv_has ls 8 [(0, .ref (v 0)), (1, .int (42)), (2, .int (z)), (3, .int (e0)), (4, .int (e1)), (5, .int (e2)), (6, .int (e3))] := hl
  have w151 := hts (Cond.classLink RL 151 "java/util/NoSuchElementException") (List.mem_cons_of_mem _ (gT_of mw_646 rfl))
  have w155 := hts (Cond.classLink RL 155 "java/lang/IllegalStateException") (List.mem_cons_of_mem _ (gT_of mw_1186 rfl))
  have w157 := hts (Cond.classLink RL 157 "java/lang/IllegalArgumentException") (List.mem_cons_of_mem _ (gT_of mw_1187 rfl))
  have w159 := hts (Cond.classLink RL 159 "java/lang/IndexOutOfBoundsException") (List.mem_cons_of_mem _ (gT_of mw_1188 rfl))
  refine lv_iload_n hx hb dL_call_0 rfl (lv_at hl 1 rfl) ?_
  refine lv_tableIn (off := 492) (tgt := 493) hx hb dL_call_1 (by decide) (by decide) (by decide) (by decide) ?_
  refine lv_aload_n hx hb dL_call_493 rfl (lv_at hl 0 rfl) ?_
  refine lv_iload_n hx hb dL_call_494 rfl (lv_at hl 2 rfl) ?_
  refine wxVi (As := [.int (z)]) (rest := []) ⟨hx, hb, hml, hown, hts⟩ (c_X9_willBeAnswered l hl9 D T aK aV v B O g ln un nx pl f0 f1 f2 z N K C nt hOI hnt2 _) (cwV 1 hts (gC gl_X9_willBeAnswered) rfl rfl rfl (by decide +kernel) ⟨Nat.le_of_ble_eq_true rfl, Nat.le_of_ble_eq_true rfl⟩) (Foc.rfl _ _) (Foc.rfl _ _) hC hK hP hD hS hA 0 rfl rfl rfl hl.1 rfl (Nat.le_of_ble_eq_true rfl) ⟨Nat.le_of_ble_eq_true rfl, Nat.le_of_ble_eq_true rfl⟩ dL_call_495 (fun E ce q9 H locs hE hP hD hS hce hcv hcl => ?_) (fun H locs hE hP hD hS => ?_)
  ·
    have hEx : E = "java/lang/IllegalStateException" ∨ E = "java/lang/IndexOutOfBoundsException" := (one_or (one_chk (P := fun E => E = "java/lang/IllegalStateException" ∨ E = "java/lang/IndexOutOfBoundsException") (Or.inr (rfl))) (one_chk (P := fun E => E = "java/lang/IllegalStateException" ∨ E = "java/lang/IndexOutOfBoundsException") (Or.inl rfl))) E hE
    rcases hEx with rfl | hEx
    ·
      refine catL hown htab hNC hC.2.2.2.2 w151 w155 w157 w159 87 (493, 506, 524, 155) rfl rfl (by decide) (by decide +kernel) hce hcv hcl ?_
      refine lv_astore (lv' := [(7, .ref (q9)), (0, .ref (v 0)), (1, .int (42)), (2, .int (z)), (3, .int (e0)), (4, .int (e1)), (5, .int (e2)), (6, .int (e3))]) hx hb dL_call_524 hl (by decide) rfl (fun ls hl => ?_)
      refine lv_bipush (v := -102) hx hb dL_call_526 (by decide) ?_
      refine endI (r := kE (bI (decide ((cUntil N K C z.toNatClampNeg 56 nt (O 0)).2 8 z.toNatClampNeg = 1))) (orE (chkB (inN z N) "java/lang/IndexOutOfBoundsException") (chkB (decide ((O 0) 8 z.toNatClampNeg = 0)) "java/lang/IllegalStateException"))) (by rw [hE]; rfl) ?_
      exact hret _ _ _ _ _ _ dL_call_528 (by rw [hE]; exact hP) (by rw [hE]; exact hD) hS (by decide) (by decide)
    ·
      subst hEx
      refine catL hown htab hNC hC.2.2.2.2 w151 w155 w157 w159 177 (493, 506, 534, 159) rfl rfl (by decide) (by decide +kernel) hce hcv hcl ?_
      refine lv_astore (lv' := [(7, .ref (q9)), (0, .ref (v 0)), (1, .int (42)), (2, .int (z)), (3, .int (e0)), (4, .int (e1)), (5, .int (e2)), (6, .int (e3))]) hx hb dL_call_534 hl (by decide) rfl (fun ls hl => ?_)
      refine lv_bipush (v := -104) hx hb dL_call_536 (by decide) ?_
      refine endI (r := kE (bI (decide ((cUntil N K C z.toNatClampNeg 56 nt (O 0)).2 8 z.toNatClampNeg = 1))) (orE (chkB (inN z N) "java/lang/IndexOutOfBoundsException") (chkB (decide ((O 0) 8 z.toNatClampNeg = 0)) "java/lang/IllegalStateException"))) (by rw [hE]; rfl) ?_
      exact hret _ _ _ _ _ _ dL_call_538 (by rw [hE]; exact hP) (by rw [hE]; exact hD) hS (by decide) (by decide)
  ·
    have hE1 : kE (bI (decide ((cUntil N K C z.toNatClampNeg 56 nt (O 0)).2 8 z.toNatClampNeg = 1))) (orE (chkB (inN z N) "java/lang/IndexOutOfBoundsException") (chkB (decide ((O 0) 8 z.toNatClampNeg = 0)) "java/lang/IllegalStateException")) = bI (decide ((cUntil N K C z.toNatClampNeg 56 nt (O 0)).2 8 z.toNatClampNeg = 1)) := by rw [hE]; rfl
    refine lv_if_eq (tgt := 505) hx hb dL_call_498 (by decide) (fun cb => ?_) (fun cb => ?_)
    ·
      refine lv_iconst (v := 0) hx hb dL_call_505 (by decide) ?_
      refine endI (r := kE (bI (decide ((cUntil N K C z.toNatClampNeg 56 nt (O 0)).2 8 z.toNatClampNeg = 1))) (orE (chkB (inN z N) "java/lang/IndexOutOfBoundsException") (chkB (decide ((O 0) 8 z.toNatClampNeg = 0)) "java/lang/IllegalStateException"))) (by rw [hE1]; exact cb.symm) ?_
      exact hret _ _ _ _ _ _ dL_call_506 (by rw [hE]; exact hP) (by rw [hE]; exact hD) hS (by decide) (by decide)
    ·
      refine lv_iconst (v := 1) hx hb dL_call_501 (by decide) ?_
      refine lv_goto (tgt := 506) hx hb dL_call_502 (by decide) ?_
      refine endI (r := kE (bI (decide ((cUntil N K C z.toNatClampNeg 56 nt (O 0)).2 8 z.toNatClampNeg = 1))) (orE (chkB (inN z N) "java/lang/IndexOutOfBoundsException") (chkB (decide ((O 0) 8 z.toNatClampNeg = 0)) "java/lang/IllegalStateException"))) (by rw [hE1, bI_n0.mp cb]; rfl) ?_
      exact hret _ _ _ _ _ _ dL_call_506 (by rw [hE]; exact hP) (by rw [hE]; exact hD) hS (by decide) (by decide)

set_option maxHeartbeats 4000000 in
set_option maxRecDepth 100000 in
theorem c_call_44 (l : Launch) (hl9 : l.stackTraces = false) (D : va_G) (T : Nat → ClassId) (aK aV : Nat → Nat) (v : Nat → Nat) (B : Nat → Nat → Nat) (O : Nat → Nat → Nat → Int32) (g : CSt) (ln un nx pl : Nat) (f0 f1 f2 : Nat → Int32) (z : Int32) (e0 : Int32) (e1 : Int32) (e2 : Int32) (e3 : Int32)  (hpl : pl ≤ 120) (sz : Nat) : Met l yL_call wsL_call ({ frames := 10, cells := 4, slots := 24, locals := 215 } : Room) (va_Pc [.ref (v 0), .int (44), .int (z), .int (e0), .int (e1), .int (e2), .int (e3)] (LWP D T aK aV (WIN T v B O g ln un nx pl f0 f1 f2) sz)) (va_Qi (fun r9 (_ : Unit) => r9 = kE (f1 z.toNatClampNeg) (chkB (inN z pl) "java/lang/IndexOutOfBoundsException")) (fun _ t => QS D T (va_A (WIN T v B O g ln un nx pl f0 f1 f2) sz) (WIN T v B O g ln un nx pl f0 f1 f2) t) (va_A (WIN T v B O g ln un nx pl f0 f1 f2) sz)) 4 24 (va_A (WIN T v B O g ln un nx pl f0 f1 f2) sz) := by
  refine metLi (cc := cL_call) (maxL := 8) (by decide) rfl (Nat.le_of_ble_eq_true rfl) ?_
  intro p e s m args below meth c Q ls A hx hb hml hown hts htab hNC hC hP hK hD hA hS hl hret
  have hown : s.vm.findClass RL = some m.cls := hown
  have hl : lv_has ls 8 [(0, .ref (v 0)), (1, .int (44)), (2, .int (z)), (3, .int (e0)), (4, .int (e1)), (5, .int (e2)), (6, .int (e3))] := hl
  have w151 := hts (Cond.classLink RL 151 "java/util/NoSuchElementException") (List.mem_cons_of_mem _ (gT_of mw_646 rfl))
  have w155 := hts (Cond.classLink RL 155 "java/lang/IllegalStateException") (List.mem_cons_of_mem _ (gT_of mw_1186 rfl))
  have w157 := hts (Cond.classLink RL 157 "java/lang/IllegalArgumentException") (List.mem_cons_of_mem _ (gT_of mw_1187 rfl))
  have w159 := hts (Cond.classLink RL 159 "java/lang/IndexOutOfBoundsException") (List.mem_cons_of_mem _ (gT_of mw_1188 rfl))
  refine lv_iload_n hx hb dL_call_0 rfl (lv_at hl 1 rfl) ?_
  refine lv_tableOut (tgt := 513) hx hb dL_call_1 (by decide) (by decide) ?_
  refine lv_aload_n hx hb dL_call_513 rfl (lv_at hl 0 rfl) ?_
  refine lv_iload_n hx hb dL_call_514 rfl (lv_at hl 2 rfl) ?_
  refine wxVi (As := [.int (z)]) (rest := []) ⟨hx, hb, hml, hown, hts⟩ (c_X9_writtenByte l hl9 D T aK aV v B O g ln un nx pl f0 f1 f2 z hpl _) (cwV 1 hts (gC gl_X9_writtenByte) rfl rfl rfl (by decide +kernel) ⟨Nat.le_of_ble_eq_true rfl, Nat.le_of_ble_eq_true rfl⟩) (Foc.rfl _ _) (Foc.rfl _ _) hC hK hP hD hS hA 0 rfl rfl rfl hl.1 rfl (Nat.le_of_ble_eq_true rfl) ⟨Nat.le_of_ble_eq_true rfl, Nat.le_of_ble_eq_true rfl⟩ dL_call_515 (fun E ce q9 H locs hE hP hD hS hce hcv hcl => ?_) (fun H locs hE hP hD hS => ?_)
  ·
    have hEx : E = "java/lang/IndexOutOfBoundsException" := (one_chk (P := fun E => E = "java/lang/IndexOutOfBoundsException") (rfl)) E hE
    subst hEx
    refine catL hown htab hNC hC.2.2.2.2 w151 w155 w157 w159 179 (513, 518, 534, 159) rfl rfl (by decide) (by decide +kernel) hce hcv hcl ?_
    refine lv_astore (lv' := [(7, .ref (q9)), (0, .ref (v 0)), (1, .int (44)), (2, .int (z)), (3, .int (e0)), (4, .int (e1)), (5, .int (e2)), (6, .int (e3))]) hx hb dL_call_534 hl (by decide) rfl (fun ls hl => ?_)
    refine lv_bipush (v := -104) hx hb dL_call_536 (by decide) ?_
    refine endI (r := kE (f1 z.toNatClampNeg) (chkB (inN z pl) "java/lang/IndexOutOfBoundsException")) (by rw [hE]; rfl) ?_
    exact hret _ _ _ _ _ _ dL_call_538 hP hD hS (by decide) (by decide)
  ·
    have hE1 : kE (f1 z.toNatClampNeg) (chkB (inN z pl) "java/lang/IndexOutOfBoundsException") = f1 z.toNatClampNeg := by rw [hE]; rfl
    refine endI (r := kE (f1 z.toNatClampNeg) (chkB (inN z pl) "java/lang/IndexOutOfBoundsException")) hE1.symm ?_
    exact hret _ _ _ _ _ _ dL_call_518 hP hD hS (by decide) (by decide)
