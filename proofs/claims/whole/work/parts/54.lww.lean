set_option maxHeartbeats 4000000 in
set_option maxRecDepth 100000 in
theorem c_L_addClerk (l : Launch) (hl9 : l.stackTraces = false) (D : va_G) (T : Nat → ClassId) (aK aV : Nat → Nat) (v : Nat → Nat) (B : Nat → Nat → Nat) (O : Nat → Nat → Nat → Int32) (g : CSt) (ln un nx pl : Nat) (f0 f1 f2 : Nat → Int32) (ob : Nat) (fo : Nat → Int64) (z : Int32) (z1 : Int32) (N : Nat) (K : Nat) (C : Nat) (nt : Nat) (hOI : OI (O 0) N K C nt) (hu : un ≤ 8) (hnx : nx < 8) (sz : Nat) : Met l yL_addClerk wsL_addClerk ({ frames := 8, cells := 3, slots := 18, locals := 134 } : Room) (va_Pc [.ref (v 0), .int (z), .int (z1), .ref (ob)] (fun U => PSc D T aK aV (OUT T ob fo :: WIN T v B O g ln un nx pl f0 f1 f2) sz U ∧ NCX U)) (va_Qi (fun r9 (_ : Unit) => r9 = kC "java/lang/IllegalArgumentException" (orE (chkB (rg z 1 9) "java/lang/IllegalArgumentException") (orE (chkB (rg z1 0 99) "java/lang/IllegalArgumentException") (chkB (decide (K < 5)) "java/lang/IllegalStateException")))) (fun _ t => QS D T (va_A (OUT T ob fo :: WIN T v B O g ln un nx pl f0 f1 f2) sz) (wC (OUT T ob (vp_updL fo 0 (nI K).toInt64) :: WIN T v B (va_up (va_up O (3 + nx) (O 0)) 0 (staffAdd (O 0) K z z1)) g ln (if un = 8 then 8 else un + 1) ((nx + 1) % 8) pl f0 f1 f2) (OUT T ob fo :: WIN T v B O g ln un nx pl f0 f1 f2) (orE (chkB (rg z 1 9) "java/lang/IllegalArgumentException") (orE (chkB (rg z1 0 99) "java/lang/IllegalArgumentException") (chkB (decide (K < 5)) "java/lang/IllegalStateException")))) t) (va_A (OUT T ob fo :: WIN T v B O g ln un nx pl f0 f1 f2) sz)) 3 18 (va_A (OUT T ob fo :: WIN T v B O g ln un nx pl f0 f1 f2) sz) := by
  have hcd : oneOf "java/lang/IllegalArgumentException" "java/lang/IllegalStateException" (orE (chkB (rg z 1 9) "java/lang/IllegalArgumentException") (orE (chkB (rg z1 0 99) "java/lang/IllegalArgumentException") (chkB (decide (K < 5)) "java/lang/IllegalStateException"))) := oneOf_or (oneOf_chk (Or.inl rfl)) (oneOf_or (oneOf_chk (Or.inl rfl)) (oneOf_chk (Or.inr rfl)))
  refine metLi (cc := cL_addClerk) (maxL := 5) (by decide) rfl (Nat.le_of_ble_eq_true rfl) ?_
  intro p e s m args below meth c Q ls A hx hb hml hown hts htab hNC hC hP hK hD hA hS hl hret
  have hown : s.vm.findClass RL = some m.cls := hown
  have hl : lv_has ls 5 [(0, .ref (v 0)), (1, .int (z)), (2, .int (z1)), (3, .ref (ob))] := hl
  have w1 := hts (Cond.classLink RL 19 "java/lang/IllegalArgumentException") (List.mem_of_getElem? (i := 1) rfl)
  have w2 := hts (Cond.classLink RL 13 "java/lang/IllegalStateException") (List.mem_of_getElem? (i := 2) rfl)
  refine lv_aload_n hx hb dL_addClerk_0 rfl (lv_at hl 3 rfl) ?_
  refine lv_iconst (v := 0) hx hb dL_addClerk_1 (by decide) ?_
  refine lv_aload_n hx hb dL_addClerk_2 rfl (lv_at hl 0 rfl) ?_
  refine lv_iload_n hx hb dL_addClerk_3 rfl (lv_at hl 1 rfl) ?_
  refine lv_iload_n hx hb dL_addClerk_4 rfl (lv_at hl 2 rfl) ?_
  refine wxVi (As := [.int (z), .int (z1)]) (rest := [.int 0, .ref (ob)]) ⟨hx, hb, hml, hown, hts⟩ (c_X9_addClerk l hl9 D T aK aV v B O g ln un nx pl f0 f1 f2 z z1 N K C nt hOI hu hnx _) (cwV 2 hts gL_addClerk_X9_addClerk rfl rfl rfl (by decide +kernel) ⟨Nat.le_of_ble_eq_true rfl, Nat.le_of_ble_eq_true rfl⟩) (Foc.cons (OUT T ob fo) _ _) (Foc.cons (OUT T ob fo) _ _) hC hK hP hD hS hA 0 rfl rfl rfl hl.1 rfl (Nat.le_of_ble_eq_true rfl) ⟨Nat.le_of_ble_eq_true rfl, Nat.le_of_ble_eq_true rfl⟩ dL_addClerk_5 (fun E ce q9 H locs hE hP hD hS hce hcv hcl => ?_) (fun H locs hE hP hD hS => ?_)
  ·
    rcases hcd E hE with rfl | rfl
    ·
      refine vx_catch (E := "java/lang/IllegalArgumentException") (name := "java/lang/IllegalArgumentException") hown [] ⟨0, 10, 13, 19⟩ [⟨0, 10, 17, 13⟩] (by rw [htab]; rfl) (fun z hz => absurd hz List.not_mem_nil) (by decide) (by decide) w1 (cast_self hC.2.2.2.2 "java/lang/IllegalArgumentException" (by decide)) hce hcv hcl ?_
      refine lv_astore (lv' := [(4, .ref (q9)), (0, .ref (v 0)), (1, .int (z)), (2, .int (z1)), (3, .ref (ob))]) hx hb dL_addClerk_13 hl (by decide) rfl (fun ls hl => ?_)
      refine lv_iconst (v := 1) hx hb dL_addClerk_15 (by decide) ?_
      refine endI (r := kC "java/lang/IllegalArgumentException" (orE (chkB (rg z 1 9) "java/lang/IllegalArgumentException") (orE (chkB (rg z1 0 99) "java/lang/IllegalArgumentException") (chkB (decide (K < 5)) "java/lang/IllegalStateException")))) (by rw [hE]; simp [kC]) ?_
      exact hret _ _ _ _ dL_addClerk_16 (by rw [hE]; exact hP) (by rw [hE]; exact hD) hS
    ·
      refine vx_catch (E := "java/lang/IllegalStateException") (name := "java/lang/IllegalStateException") hown [⟨0, 10, 13, 19⟩] ⟨0, 10, 17, 13⟩ [] (by rw [htab]; rfl) (fun z hz => by obtain rfl := List.mem_singleton.mp hz; exact Or.inr ⟨by decide, "java/lang/IllegalArgumentException", w1, hNC "java/lang/IllegalStateException" (by decide) "java/lang/IllegalArgumentException" (by decide) (by decide)⟩) (by decide) (by decide) w2 (cast_self hC.2.2.2.2 "java/lang/IllegalStateException" (by decide)) hce hcv hcl ?_
      refine lv_astore (lv' := [(4, .ref (q9)), (0, .ref (v 0)), (1, .int (z)), (2, .int (z1)), (3, .ref (ob))]) hx hb dL_addClerk_17 hl (by decide) rfl (fun ls hl => ?_)
      refine lv_iconst (v := 2) hx hb dL_addClerk_19 (by decide) ?_
      refine endI (r := kC "java/lang/IllegalArgumentException" (orE (chkB (rg z 1 9) "java/lang/IllegalArgumentException") (orE (chkB (rg z1 0 99) "java/lang/IllegalArgumentException") (chkB (decide (K < 5)) "java/lang/IllegalStateException")))) (by rw [hE]; simp [kC]) ?_
      exact hret _ _ _ _ dL_addClerk_20 (by rw [hE]; exact hP) (by rw [hE]; exact hD) hS
  ·
    refine lv_i2l (v := (nI K).toInt64) hx hb dL_addClerk_8 rfl ?_
    refine va_last hx hb hK hP hD hS 0 3 rfl rfl (by unfold vp_in; decide) dL_addClerk_9 (fun H locs hP hD hS => ?_)
    rw [show (0 : Int32).toNatClampNeg = 0 from by decide] at hP hD
    have hP : va_P D vwCl (OUT T ob (vp_updL fo 0 (nI K).toInt64) :: WIN T v B (va_up (va_up O (3 + nx) (O 0)) 0 (staffAdd (O 0) K z z1)) g ln (if un = 8 then 8 else un + 1) ((nx + 1) % 8) pl f0 f1 f2) H := hP
    have hD : va_D A (OUT T ob (vp_updL fo 0 (nI K).toInt64) :: WIN T v B (va_up (va_up O (3 + nx) (O 0)) 0 (staffAdd (O 0) K z z1)) g ln (if un = 8 then 8 else un + 1) ((nx + 1) % 8) pl f0 f1 f2) := hD
    refine lv_goto (tgt := 21) hx hb dL_addClerk_10 (by decide) ?_
    refine lv_iconst (v := 0) hx hb dL_addClerk_21 (by decide) ?_
    refine endI (r := kC "java/lang/IllegalArgumentException" (orE (chkB (rg z 1 9) "java/lang/IllegalArgumentException") (orE (chkB (rg z1 0 99) "java/lang/IllegalArgumentException") (chkB (decide (K < 5)) "java/lang/IllegalStateException")))) (by rw [hE]; rfl) ?_
    exact hret _ _ _ _ dL_addClerk_22 (by rw [hE]; exact hP) (by rw [hE]; exact hD) hS

set_option maxHeartbeats 4000000 in
set_option maxRecDepth 100000 in
theorem c_L_angerOf (l : Launch) (hl9 : l.stackTraces = false) (D : va_G) (T : Nat → ClassId) (aK aV : Nat → Nat) (v : Nat → Nat) (B : Nat → Nat → Nat) (O : Nat → Nat → Nat → Int32) (g : CSt) (ln un nx pl : Nat) (f0 f1 f2 : Nat → Int32) (ob : Nat) (fo : Nat → Int64) (z : Int32) (N : Nat) (K : Nat) (C : Nat) (nt : Nat) (hOI : OI (O 0) N K C nt) (sz : Nat) : Met l yL_angerOf wsL_angerOf ({ frames := 8, cells := 1, slots := 6, locals := 132 } : Room) (va_Pc [.ref (v 0), .int (z), .ref (ob)] (fun U => PSc D T aK aV (OUT T ob fo :: WIN T v B O g ln un nx pl f0 f1 f2) sz U ∧ NCX U)) (va_Qi (fun r9 (_ : Unit) => r9 = kC "java/lang/IndexOutOfBoundsException" (chkB (inN z N) "java/lang/IndexOutOfBoundsException")) (fun _ t => QS D T (va_A (OUT T ob fo :: WIN T v B O g ln un nx pl f0 f1 f2) sz) (wC (OUT T ob (vp_updL fo 0 ((O 0) 6 z.toNatClampNeg).toInt64) :: WIN T v B O g ln un nx pl f0 f1 f2) (OUT T ob fo :: WIN T v B O g ln un nx pl f0 f1 f2) (chkB (inN z N) "java/lang/IndexOutOfBoundsException")) t) (va_A (OUT T ob fo :: WIN T v B O g ln un nx pl f0 f1 f2) sz)) 1 6 (va_A (OUT T ob fo :: WIN T v B O g ln un nx pl f0 f1 f2) sz) := by
  have hcd : oneOf "java/lang/IndexOutOfBoundsException" "java/lang/IndexOutOfBoundsException" (chkB (inN z N) "java/lang/IndexOutOfBoundsException") := oneOf_chk (Or.inl rfl)
  refine metLi (cc := cL_angerOf) (maxL := 4) (by decide) rfl (Nat.le_of_ble_eq_true rfl) ?_
  intro p e s m args below meth c Q ls A hx hb hml hown hts htab hNC hC hP hK hD hA hS hl hret
  have hown : s.vm.findClass RL = some m.cls := hown
  have hl : lv_has ls 4 [(0, .ref (v 0)), (1, .int (z)), (2, .ref (ob))] := hl
  have w1 := hts (Cond.classLink RL 55 "java/lang/IndexOutOfBoundsException") (List.mem_of_getElem? (i := 1) rfl)
  refine lv_aload_n hx hb dL_angerOf_0 rfl (lv_at hl 2 rfl) ?_
  refine lv_iconst (v := 0) hx hb dL_angerOf_1 (by decide) ?_
  refine lv_aload_n hx hb dL_angerOf_2 rfl (lv_at hl 0 rfl) ?_
  refine lv_iload_n hx hb dL_angerOf_3 rfl (lv_at hl 1 rfl) ?_
  refine wxVi (As := [.int (z)]) (rest := [.int 0, .ref (ob)]) ⟨hx, hb, hml, hown, hts⟩ (c_X9_angerOf l hl9 D T aK aV v B O g ln un nx pl f0 f1 f2 z N K C nt hOI _) (cwV 1 hts gL_angerOf_X9_angerOf rfl rfl rfl (by decide +kernel) ⟨Nat.le_of_ble_eq_true rfl, Nat.le_of_ble_eq_true rfl⟩) (Foc.cons (OUT T ob fo) _ _) (Foc.cons (OUT T ob fo) _ _) hC hK hP hD hS hA 0 rfl rfl rfl hl.1 rfl (Nat.le_of_ble_eq_true rfl) ⟨Nat.le_of_ble_eq_true rfl, Nat.le_of_ble_eq_true rfl⟩ dL_angerOf_4 (fun E ce q9 H locs hE hP hD hS hce hcv hcl => ?_) (fun H locs hE hP hD hS => ?_)
  ·
    obtain rfl : E = "java/lang/IndexOutOfBoundsException" := (hcd E hE).elim id id
    refine vx_catch (E := "java/lang/IndexOutOfBoundsException") (name := "java/lang/IndexOutOfBoundsException") hown [] ⟨0, 9, 12, 55⟩ [] (by rw [htab]; rfl) (fun z hz => absurd hz List.not_mem_nil) (by decide) (by decide) w1 (cast_self hC.2.2.2.2 "java/lang/IndexOutOfBoundsException" (by decide)) hce hcv hcl ?_
    refine lv_astore_n (lv' := [(3, .ref (q9)), (0, .ref (v 0)), (1, .int (z)), (2, .ref (ob))]) hx hb dL_angerOf_12 rfl hl (by decide) rfl (fun ls hl => ?_)
    refine lv_iconst (v := 1) hx hb dL_angerOf_13 (by decide) ?_
    refine endI (r := kC "java/lang/IndexOutOfBoundsException" (chkB (inN z N) "java/lang/IndexOutOfBoundsException")) (by rw [hE]; simp [kC]) ?_
    exact hret _ _ _ _ dL_angerOf_14 (by rw [hE]; exact hP) (by rw [hE]; exact hD) hS
  ·
    refine lv_i2l (v := ((O 0) 6 z.toNatClampNeg).toInt64) hx hb dL_angerOf_7 rfl ?_
    refine va_last hx hb hK hP hD hS 0 3 rfl rfl (by unfold vp_in; decide) dL_angerOf_8 (fun H locs hP hD hS => ?_)
    rw [show (0 : Int32).toNatClampNeg = 0 from by decide] at hP hD
    have hP : va_P D vwCl (OUT T ob (vp_updL fo 0 ((O 0) 6 z.toNatClampNeg).toInt64) :: WIN T v B O g ln un nx pl f0 f1 f2) H := hP
    have hD : va_D A (OUT T ob (vp_updL fo 0 ((O 0) 6 z.toNatClampNeg).toInt64) :: WIN T v B O g ln un nx pl f0 f1 f2) := hD
    refine lv_goto (tgt := 15) hx hb dL_angerOf_9 (by decide) ?_
    refine lv_iconst (v := 0) hx hb dL_angerOf_15 (by decide) ?_
    refine endI (r := kC "java/lang/IndexOutOfBoundsException" (chkB (inN z N) "java/lang/IndexOutOfBoundsException")) (by rw [hE]; rfl) ?_
    exact hret _ _ _ _ dL_angerOf_16 (by rw [hE]; exact hP) (by rw [hE]; exact hD) hS

set_option maxHeartbeats 4000000 in
set_option maxRecDepth 100000 in
theorem c_L_angriest (l : Launch) (hl9 : l.stackTraces = false) (D : va_G) (T : Nat → ClassId) (aK aV : Nat → Nat) (v : Nat → Nat) (B : Nat → Nat → Nat) (O : Nat → Nat → Nat → Int32) (g : CSt) (ln un nx pl : Nat) (f0 f1 f2 : Nat → Int32) (ob : Nat) (fo : Nat → Int64) (N : Nat) (K : Nat) (C : Nat) (nt : Nat) (hOI : OI (O 0) N K C nt) (sz : Nat) : Met l yL_angriest wsL_angriest ({ frames := 7, cells := 1, slots := 6, locals := 111 } : Room) (va_Pc [.ref (v 0), .ref (ob)] (fun U => PSc D T aK aV (OUT T ob fo :: WIN T v B O g ln un nx pl f0 f1 f2) sz U ∧ NCX U)) (va_Qi (fun r9 (_ : Unit) => r9 = kC "java/util/NoSuchElementException" (chkB ((mostC (O 0) 15 N).isSome) "java/util/NoSuchElementException")) (fun _ t => QS D T (va_A (OUT T ob fo :: WIN T v B O g ln un nx pl f0 f1 f2) sz) (wC (OUT T ob (vp_updL fo 0 ((mostC (O 0) 15 N).elim 0 nI).toInt64) :: WIN T v B O g ln un nx pl f0 f1 f2) (OUT T ob fo :: WIN T v B O g ln un nx pl f0 f1 f2) (chkB ((mostC (O 0) 15 N).isSome) "java/util/NoSuchElementException")) t) (va_A (OUT T ob fo :: WIN T v B O g ln un nx pl f0 f1 f2) sz)) 1 6 (va_A (OUT T ob fo :: WIN T v B O g ln un nx pl f0 f1 f2) sz) := by
  have hcd : oneOf "java/util/NoSuchElementException" "java/util/NoSuchElementException" (chkB ((mostC (O 0) 15 N).isSome) "java/util/NoSuchElementException") := oneOf_chk (Or.inl rfl)
  refine metLi (cc := cL_angriest) (maxL := 3) (by decide) rfl (Nat.le_of_ble_eq_true rfl) ?_
  intro p e s m args below meth c Q ls A hx hb hml hown hts htab hNC hC hP hK hD hA hS hl hret
  have hown : s.vm.findClass RL = some m.cls := hown
  have hl : lv_has ls 3 [(0, .ref (v 0)), (1, .ref (ob))] := hl
  have w1 := hts (Cond.classLink RL 28 "java/util/NoSuchElementException") (List.mem_of_getElem? (i := 1) rfl)
  refine lv_aload_n hx hb dL_angriest_0 rfl (lv_at hl 1 rfl) ?_
  refine lv_iconst (v := 0) hx hb dL_angriest_1 (by decide) ?_
  refine lv_aload_n hx hb dL_angriest_2 rfl (lv_at hl 0 rfl) ?_
  refine wxVi (As := []) (rest := [.int 0, .ref (ob)]) ⟨hx, hb, hml, hown, hts⟩ (c_X9_angriest l hl9 D T aK aV v B O g ln un nx pl f0 f1 f2 N K C nt hOI _) (cwV 0 hts gL_angriest_X9_angriest rfl rfl rfl (by decide +kernel) ⟨Nat.le_of_ble_eq_true rfl, Nat.le_of_ble_eq_true rfl⟩) (Foc.cons (OUT T ob fo) _ _) (Foc.cons (OUT T ob fo) _ _) hC hK hP hD hS hA 0 rfl rfl rfl hl.1 rfl (Nat.le_of_ble_eq_true rfl) ⟨Nat.le_of_ble_eq_true rfl, Nat.le_of_ble_eq_true rfl⟩ dL_angriest_3 (fun E ce q9 H locs hE hP hD hS hce hcv hcl => ?_) (fun H locs hE hP hD hS => ?_)
  ·
    obtain rfl : E = "java/util/NoSuchElementException" := (hcd E hE).elim id id
    refine vx_catch (E := "java/util/NoSuchElementException") (name := "java/util/NoSuchElementException") hown [] ⟨0, 8, 11, 28⟩ [] (by rw [htab]; rfl) (fun z hz => absurd hz List.not_mem_nil) (by decide) (by decide) w1 (cast_self hC.2.2.2.2 "java/util/NoSuchElementException" (by decide)) hce hcv hcl ?_
    refine lv_astore_n (lv' := [(2, .ref (q9)), (0, .ref (v 0)), (1, .ref (ob))]) hx hb dL_angriest_11 rfl hl (by decide) rfl (fun ls hl => ?_)
    refine lv_iconst (v := 1) hx hb dL_angriest_12 (by decide) ?_
    refine endI (r := kC "java/util/NoSuchElementException" (chkB ((mostC (O 0) 15 N).isSome) "java/util/NoSuchElementException")) (by rw [hE]; simp [kC]) ?_
    exact hret _ _ _ _ dL_angriest_13 (by rw [hE]; exact hP) (by rw [hE]; exact hD) hS
  ·
    refine lv_i2l (v := ((mostC (O 0) 15 N).elim 0 nI).toInt64) hx hb dL_angriest_6 rfl ?_
    refine va_last hx hb hK hP hD hS 0 3 rfl rfl (by unfold vp_in; decide) dL_angriest_7 (fun H locs hP hD hS => ?_)
    rw [show (0 : Int32).toNatClampNeg = 0 from by decide] at hP hD
    have hP : va_P D vwCl (OUT T ob (vp_updL fo 0 ((mostC (O 0) 15 N).elim 0 nI).toInt64) :: WIN T v B O g ln un nx pl f0 f1 f2) H := hP
    have hD : va_D A (OUT T ob (vp_updL fo 0 ((mostC (O 0) 15 N).elim 0 nI).toInt64) :: WIN T v B O g ln un nx pl f0 f1 f2) := hD
    refine lv_goto (tgt := 14) hx hb dL_angriest_8 (by decide) ?_
    refine lv_iconst (v := 0) hx hb dL_angriest_14 (by decide) ?_
    refine endI (r := kC "java/util/NoSuchElementException" (chkB ((mostC (O 0) 15 N).isSome) "java/util/NoSuchElementException")) (by rw [hE]; rfl) ?_
    exact hret _ _ _ _ dL_angriest_15 (by rw [hE]; exact hP) (by rw [hE]; exact hD) hS

set_option maxHeartbeats 4000000 in
set_option maxRecDepth 100000 in
theorem c_L_answeredBy (l : Launch) (hl9 : l.stackTraces = false) (D : va_G) (T : Nat → ClassId) (aK aV : Nat → Nat) (v : Nat → Nat) (B : Nat → Nat → Nat) (O : Nat → Nat → Nat → Int32) (g : CSt) (ln un nx pl : Nat) (f0 f1 f2 : Nat → Int32) (ob : Nat) (fo : Nat → Int64) (z : Int32) (N : Nat) (K : Nat) (C : Nat) (nt : Nat) (hOI : OI (O 0) N K C nt) (sz : Nat) : Met l yL_answeredBy wsL_answeredBy ({ frames := 8, cells := 1, slots := 6, locals := 132 } : Room) (va_Pc [.ref (v 0), .int (z), .ref (ob)] (fun U => PSc D T aK aV (OUT T ob fo :: WIN T v B O g ln un nx pl f0 f1 f2) sz U ∧ NCX U)) (va_Qi (fun r9 (_ : Unit) => r9 = kC "java/lang/IndexOutOfBoundsException" (chkB (inN z K) "java/lang/IndexOutOfBoundsException")) (fun _ t => QS D T (va_A (OUT T ob fo :: WIN T v B O g ln un nx pl f0 f1 f2) sz) (wC (OUT T ob (vp_updL fo 0 (cntI (fun k => decide ((O 0) 8 k = 1) && decide ((O 0) 10 k = z)) N 0 0).toInt64) :: WIN T v B O g ln un nx pl f0 f1 f2) (OUT T ob fo :: WIN T v B O g ln un nx pl f0 f1 f2) (chkB (inN z K) "java/lang/IndexOutOfBoundsException")) t) (va_A (OUT T ob fo :: WIN T v B O g ln un nx pl f0 f1 f2) sz)) 1 6 (va_A (OUT T ob fo :: WIN T v B O g ln un nx pl f0 f1 f2) sz) := by
  have hcd : oneOf "java/lang/IndexOutOfBoundsException" "java/lang/IndexOutOfBoundsException" (chkB (inN z K) "java/lang/IndexOutOfBoundsException") := oneOf_chk (Or.inl rfl)
  refine metLi (cc := cL_answeredBy) (maxL := 4) (by decide) rfl (Nat.le_of_ble_eq_true rfl) ?_
  intro p e s m args below meth c Q ls A hx hb hml hown hts htab hNC hC hP hK hD hA hS hl hret
  have hown : s.vm.findClass RL = some m.cls := hown
  have hl : lv_has ls 4 [(0, .ref (v 0)), (1, .int (z)), (2, .ref (ob))] := hl
  have w1 := hts (Cond.classLink RL 55 "java/lang/IndexOutOfBoundsException") (List.mem_of_getElem? (i := 1) rfl)
  refine lv_aload_n hx hb dL_answeredBy_0 rfl (lv_at hl 2 rfl) ?_
  refine lv_iconst (v := 0) hx hb dL_answeredBy_1 (by decide) ?_
  refine lv_aload_n hx hb dL_answeredBy_2 rfl (lv_at hl 0 rfl) ?_
  refine lv_iload_n hx hb dL_answeredBy_3 rfl (lv_at hl 1 rfl) ?_
  refine wxVi (As := [.int (z)]) (rest := [.int 0, .ref (ob)]) ⟨hx, hb, hml, hown, hts⟩ (c_X9_answeredBy l hl9 D T aK aV v B O g ln un nx pl f0 f1 f2 z N K C nt hOI _) (cwV 1 hts gL_answeredBy_X9_answeredBy rfl rfl rfl (by decide +kernel) ⟨Nat.le_of_ble_eq_true rfl, Nat.le_of_ble_eq_true rfl⟩) (Foc.cons (OUT T ob fo) _ _) (Foc.cons (OUT T ob fo) _ _) hC hK hP hD hS hA 0 rfl rfl rfl hl.1 rfl (Nat.le_of_ble_eq_true rfl) ⟨Nat.le_of_ble_eq_true rfl, Nat.le_of_ble_eq_true rfl⟩ dL_answeredBy_4 (fun E ce q9 H locs hE hP hD hS hce hcv hcl => ?_) (fun H locs hE hP hD hS => ?_)
  ·
    obtain rfl : E = "java/lang/IndexOutOfBoundsException" := (hcd E hE).elim id id
    refine vx_catch (E := "java/lang/IndexOutOfBoundsException") (name := "java/lang/IndexOutOfBoundsException") hown [] ⟨0, 9, 12, 55⟩ [] (by rw [htab]; rfl) (fun z hz => absurd hz List.not_mem_nil) (by decide) (by decide) w1 (cast_self hC.2.2.2.2 "java/lang/IndexOutOfBoundsException" (by decide)) hce hcv hcl ?_
    refine lv_astore_n (lv' := [(3, .ref (q9)), (0, .ref (v 0)), (1, .int (z)), (2, .ref (ob))]) hx hb dL_answeredBy_12 rfl hl (by decide) rfl (fun ls hl => ?_)
    refine lv_iconst (v := 1) hx hb dL_answeredBy_13 (by decide) ?_
    refine endI (r := kC "java/lang/IndexOutOfBoundsException" (chkB (inN z K) "java/lang/IndexOutOfBoundsException")) (by rw [hE]; simp [kC]) ?_
    exact hret _ _ _ _ dL_answeredBy_14 (by rw [hE]; exact hP) (by rw [hE]; exact hD) hS
  ·
    refine lv_i2l (v := (cntI (fun k => decide ((O 0) 8 k = 1) && decide ((O 0) 10 k = z)) N 0 0).toInt64) hx hb dL_answeredBy_7 rfl ?_
    refine va_last hx hb hK hP hD hS 0 3 rfl rfl (by unfold vp_in; decide) dL_answeredBy_8 (fun H locs hP hD hS => ?_)
    rw [show (0 : Int32).toNatClampNeg = 0 from by decide] at hP hD
    have hP : va_P D vwCl (OUT T ob (vp_updL fo 0 (cntI (fun k => decide ((O 0) 8 k = 1) && decide ((O 0) 10 k = z)) N 0 0).toInt64) :: WIN T v B O g ln un nx pl f0 f1 f2) H := hP
    have hD : va_D A (OUT T ob (vp_updL fo 0 (cntI (fun k => decide ((O 0) 8 k = 1) && decide ((O 0) 10 k = z)) N 0 0).toInt64) :: WIN T v B O g ln un nx pl f0 f1 f2) := hD
    refine lv_goto (tgt := 15) hx hb dL_answeredBy_9 (by decide) ?_
    refine lv_iconst (v := 0) hx hb dL_answeredBy_15 (by decide) ?_
    refine endI (r := kC "java/lang/IndexOutOfBoundsException" (chkB (inN z K) "java/lang/IndexOutOfBoundsException")) (by rw [hE]; rfl) ?_
    exact hret _ _ _ _ dL_answeredBy_16 (by rw [hE]; exact hP) (by rw [hE]; exact hD) hS

set_option maxHeartbeats 4000000 in
set_option maxRecDepth 100000 in
theorem c_L_append (l : Launch) (hl9 : l.stackTraces = false) (D : va_G) (T : Nat → ClassId) (aK aV : Nat → Nat) (v : Nat → Nat) (B : Nat → Nat → Nat) (O : Nat → Nat → Nat → Int32) (g : CSt) (ln un nx pl : Nat) (f0 f1 f2 : Nat → Int32) (ob : Nat) (fo : Nat → Int64) (a1 : Int32) (a2 : Int32) (a3 : Int32) (a4 : Int32) (a5 : Int32)  (hL2 : ln ≤ 600) (sz : Nat) : Met l yL_append wsL_append ({ frames := 7, cells := 1, slots := 6, locals := 116 } : Room) (va_Pc [.ref (v 0), .int (a1), .int (a2), .int (a3), .int (a4), .int (a5), .ref (ob)] (fun U => PSc D T aK aV (OUT T ob fo :: WIN T v B O g ln un nx pl f0 f1 f2) sz U ∧ NCX U)) (va_Qi (fun r9 (_ : Unit) => r9 = kC "java/lang/IllegalStateException" (chkB (decide (ln ≤ 580)) "java/lang/IllegalStateException")) (fun _ t => QS D T (va_A (OUT T ob fo :: WIN T v B O g ln un nx pl f0 f1 f2) sz) (wC (OUT T ob (vp_updL fo 0 (nI (ln + 20)).toInt64) :: WIN T v B O g (ln + 20) un nx pl (appC a1 a2 a3 a4 a5 ln f0) f1 f2) (OUT T ob fo :: WIN T v B O g ln un nx pl f0 f1 f2) (chkB (decide (ln ≤ 580)) "java/lang/IllegalStateException")) t) (va_A (OUT T ob fo :: WIN T v B O g ln un nx pl f0 f1 f2) sz)) 1 6 (va_A (OUT T ob fo :: WIN T v B O g ln un nx pl f0 f1 f2) sz) := by
  have hcd : oneOf "java/lang/IllegalStateException" "java/lang/IllegalStateException" (chkB (decide (ln ≤ 580)) "java/lang/IllegalStateException") := oneOf_chk (Or.inl rfl)
  refine metLi (cc := cL_append) (maxL := 8) (by decide) rfl (Nat.le_of_ble_eq_true rfl) ?_
  intro p e s m args below meth c Q ls A hx hb hml hown hts htab hNC hC hP hK hD hA hS hl hret
  have hown : s.vm.findClass RL = some m.cls := hown
  have hl : lv_has ls 8 [(0, .ref (v 0)), (1, .int (a1)), (2, .int (a2)), (3, .int (a3)), (4, .int (a4)), (5, .int (a5)), (6, .ref (ob))] := hl
  have w1 := hts (Cond.classLink RL 13 "java/lang/IllegalStateException") (List.mem_of_getElem? (i := 1) rfl)
  refine lv_aload hx hb dL_append_0 (lv_at hl 6 rfl) ?_
  refine lv_iconst (v := 0) hx hb dL_append_2 (by decide) ?_
  refine lv_aload_n hx hb dL_append_3 rfl (lv_at hl 0 rfl) ?_
  refine lv_iload_n hx hb dL_append_4 rfl (lv_at hl 1 rfl) ?_
  refine lv_iload_n hx hb dL_append_5 rfl (lv_at hl 2 rfl) ?_
  refine lv_iload_n hx hb dL_append_6 rfl (lv_at hl 3 rfl) ?_
  refine lv_iload hx hb dL_append_7 (lv_at hl 4 rfl) ?_
  refine lv_iload hx hb dL_append_9 (lv_at hl 5 rfl) ?_
  refine wxVi (As := [.int (a1), .int (a2), .int (a3), .int (a4), .int (a5)]) (rest := [.int 0, .ref (ob)]) ⟨hx, hb, hml, hown, hts⟩ (c_X9_append l hl9 D T aK aV v B O g ln un nx pl f0 f1 f2 a1 a2 a3 a4 a5 hL2 _) (cwV 5 hts gL_append_X9_append rfl rfl rfl (by decide +kernel) ⟨Nat.le_of_ble_eq_true rfl, Nat.le_of_ble_eq_true rfl⟩) (Foc.cons (OUT T ob fo) _ _) (Foc.cons (OUT T ob fo) _ _) hC hK hP hD hS hA 0 rfl rfl rfl hl.1 rfl (Nat.le_of_ble_eq_true rfl) ⟨Nat.le_of_ble_eq_true rfl, Nat.le_of_ble_eq_true rfl⟩ dL_append_11 (fun E ce q9 H locs hE hP hD hS hce hcv hcl => ?_) (fun H locs hE hP hD hS => ?_)
  ·
    obtain rfl : E = "java/lang/IllegalStateException" := (hcd E hE).elim id id
    refine vx_catch (E := "java/lang/IllegalStateException") (name := "java/lang/IllegalStateException") hown [] ⟨0, 16, 19, 13⟩ [] (by rw [htab]; rfl) (fun z hz => absurd hz List.not_mem_nil) (by decide) (by decide) w1 (cast_self hC.2.2.2.2 "java/lang/IllegalStateException" (by decide)) hce hcv hcl ?_
    refine lv_astore (lv' := [(7, .ref (q9)), (0, .ref (v 0)), (1, .int (a1)), (2, .int (a2)), (3, .int (a3)), (4, .int (a4)), (5, .int (a5)), (6, .ref (ob))]) hx hb dL_append_19 hl (by decide) rfl (fun ls hl => ?_)
    refine lv_iconst (v := 1) hx hb dL_append_21 (by decide) ?_
    refine endI (r := kC "java/lang/IllegalStateException" (chkB (decide (ln ≤ 580)) "java/lang/IllegalStateException")) (by rw [hE]; simp [kC]) ?_
    exact hret _ _ _ _ dL_append_22 (by rw [hE]; exact hP) (by rw [hE]; exact hD) hS
  ·
    refine lv_i2l (v := (nI (ln + 20)).toInt64) hx hb dL_append_14 rfl ?_
    refine va_last hx hb hK hP hD hS 0 3 rfl rfl (by unfold vp_in; decide) dL_append_15 (fun H locs hP hD hS => ?_)
    rw [show (0 : Int32).toNatClampNeg = 0 from by decide] at hP hD
    have hP : va_P D vwCl (OUT T ob (vp_updL fo 0 (nI (ln + 20)).toInt64) :: WIN T v B O g (ln + 20) un nx pl (appC a1 a2 a3 a4 a5 ln f0) f1 f2) H := hP
    have hD : va_D A (OUT T ob (vp_updL fo 0 (nI (ln + 20)).toInt64) :: WIN T v B O g (ln + 20) un nx pl (appC a1 a2 a3 a4 a5 ln f0) f1 f2) := hD
    refine lv_goto (tgt := 23) hx hb dL_append_16 (by decide) ?_
    refine lv_iconst (v := 0) hx hb dL_append_23 (by decide) ?_
    refine endI (r := kC "java/lang/IllegalStateException" (chkB (decide (ln ≤ 580)) "java/lang/IllegalStateException")) (by rw [hE]; rfl) ?_
    exact hret _ _ _ _ dL_append_24 (by rw [hE]; exact hP) (by rw [hE]; exact hD) hS

set_option maxHeartbeats 4000000 in
set_option maxRecDepth 100000 in
theorem c_L_clerkOf (l : Launch) (hl9 : l.stackTraces = false) (D : va_G) (T : Nat → ClassId) (aK aV : Nat → Nat) (v : Nat → Nat) (B : Nat → Nat → Nat) (O : Nat → Nat → Nat → Int32) (g : CSt) (ln un nx pl : Nat) (f0 f1 f2 : Nat → Int32) (ob : Nat) (fo : Nat → Int64) (z : Int32) (N : Nat) (K : Nat) (C : Nat) (nt : Nat) (hOI : OI (O 0) N K C nt) (sz : Nat) : Met l yL_clerkOf wsL_clerkOf ({ frames := 8, cells := 2, slots := 12, locals := 133 } : Room) (va_Pc [.ref (v 0), .int (z), .ref (ob)] (fun U => PSc D T aK aV (OUT T ob fo :: WIN T v B O g ln un nx pl f0 f1 f2) sz U ∧ NCX U)) (va_Qi (fun r9 (_ : Unit) => r9 = kC "java/lang/IndexOutOfBoundsException" (orE (chkB (inN z N) "java/lang/IndexOutOfBoundsException") (chkB (!decide ((O 0) 10 z.toNatClampNeg = -1)) "java/util/NoSuchElementException"))) (fun _ t => QS D T (va_A (OUT T ob fo :: WIN T v B O g ln un nx pl f0 f1 f2) sz) (wC (OUT T ob (vp_updL fo 0 ((O 0) 10 z.toNatClampNeg).toInt64) :: WIN T v B O g ln un nx pl f0 f1 f2) (OUT T ob fo :: WIN T v B O g ln un nx pl f0 f1 f2) (orE (chkB (inN z N) "java/lang/IndexOutOfBoundsException") (chkB (!decide ((O 0) 10 z.toNatClampNeg = -1)) "java/util/NoSuchElementException"))) t) (va_A (OUT T ob fo :: WIN T v B O g ln un nx pl f0 f1 f2) sz)) 2 12 (va_A (OUT T ob fo :: WIN T v B O g ln un nx pl f0 f1 f2) sz) := by
  have hcd : oneOf "java/lang/IndexOutOfBoundsException" "java/util/NoSuchElementException" (orE (chkB (inN z N) "java/lang/IndexOutOfBoundsException") (chkB (!decide ((O 0) 10 z.toNatClampNeg = -1)) "java/util/NoSuchElementException")) := oneOf_or (oneOf_chk (Or.inl rfl)) (oneOf_chk (Or.inr rfl))
  refine metLi (cc := cL_clerkOf) (maxL := 4) (by decide) rfl (Nat.le_of_ble_eq_true rfl) ?_
  intro p e s m args below meth c Q ls A hx hb hml hown hts htab hNC hC hP hK hD hA hS hl hret
  have hown : s.vm.findClass RL = some m.cls := hown
  have hl : lv_has ls 4 [(0, .ref (v 0)), (1, .int (z)), (2, .ref (ob))] := hl
  have w1 := hts (Cond.classLink RL 55 "java/lang/IndexOutOfBoundsException") (List.mem_of_getElem? (i := 1) rfl)
  have w2 := hts (Cond.classLink RL 28 "java/util/NoSuchElementException") (List.mem_of_getElem? (i := 2) rfl)
  refine lv_aload_n hx hb dL_clerkOf_0 rfl (lv_at hl 2 rfl) ?_
  refine lv_iconst (v := 0) hx hb dL_clerkOf_1 (by decide) ?_
  refine lv_aload_n hx hb dL_clerkOf_2 rfl (lv_at hl 0 rfl) ?_
  refine lv_iload_n hx hb dL_clerkOf_3 rfl (lv_at hl 1 rfl) ?_
  refine wxVi (As := [.int (z)]) (rest := [.int 0, .ref (ob)]) ⟨hx, hb, hml, hown, hts⟩ (c_X9_clerkOf l hl9 D T aK aV v B O g ln un nx pl f0 f1 f2 z N K C nt hOI _) (cwV 1 hts gL_clerkOf_X9_clerkOf rfl rfl rfl (by decide +kernel) ⟨Nat.le_of_ble_eq_true rfl, Nat.le_of_ble_eq_true rfl⟩) (Foc.cons (OUT T ob fo) _ _) (Foc.cons (OUT T ob fo) _ _) hC hK hP hD hS hA 0 rfl rfl rfl hl.1 rfl (Nat.le_of_ble_eq_true rfl) ⟨Nat.le_of_ble_eq_true rfl, Nat.le_of_ble_eq_true rfl⟩ dL_clerkOf_4 (fun E ce q9 H locs hE hP hD hS hce hcv hcl => ?_) (fun H locs hE hP hD hS => ?_)
  ·
    rcases hcd E hE with rfl | rfl
    ·
      refine vx_catch (E := "java/lang/IndexOutOfBoundsException") (name := "java/lang/IndexOutOfBoundsException") hown [] ⟨0, 9, 12, 55⟩ [⟨0, 9, 15, 28⟩] (by rw [htab]; rfl) (fun z hz => absurd hz List.not_mem_nil) (by decide) (by decide) w1 (cast_self hC.2.2.2.2 "java/lang/IndexOutOfBoundsException" (by decide)) hce hcv hcl ?_
      refine lv_astore_n (lv' := [(3, .ref (q9)), (0, .ref (v 0)), (1, .int (z)), (2, .ref (ob))]) hx hb dL_clerkOf_12 rfl hl (by decide) rfl (fun ls hl => ?_)
      refine lv_iconst (v := 1) hx hb dL_clerkOf_13 (by decide) ?_
      refine endI (r := kC "java/lang/IndexOutOfBoundsException" (orE (chkB (inN z N) "java/lang/IndexOutOfBoundsException") (chkB (!decide ((O 0) 10 z.toNatClampNeg = -1)) "java/util/NoSuchElementException"))) (by rw [hE]; simp [kC]) ?_
      exact hret _ _ _ _ dL_clerkOf_14 (by rw [hE]; exact hP) (by rw [hE]; exact hD) hS
    ·
      refine vx_catch (E := "java/util/NoSuchElementException") (name := "java/util/NoSuchElementException") hown [⟨0, 9, 12, 55⟩] ⟨0, 9, 15, 28⟩ [] (by rw [htab]; rfl) (fun z hz => by obtain rfl := List.mem_singleton.mp hz; exact Or.inr ⟨by decide, "java/lang/IndexOutOfBoundsException", w1, hNC "java/util/NoSuchElementException" (by decide) "java/lang/IndexOutOfBoundsException" (by decide) (by decide)⟩) (by decide) (by decide) w2 (cast_self hC.2.2.2.2 "java/util/NoSuchElementException" (by decide)) hce hcv hcl ?_
      refine lv_astore_n (lv' := [(3, .ref (q9)), (0, .ref (v 0)), (1, .int (z)), (2, .ref (ob))]) hx hb dL_clerkOf_15 rfl hl (by decide) rfl (fun ls hl => ?_)
      refine lv_iconst (v := 2) hx hb dL_clerkOf_16 (by decide) ?_
      refine endI (r := kC "java/lang/IndexOutOfBoundsException" (orE (chkB (inN z N) "java/lang/IndexOutOfBoundsException") (chkB (!decide ((O 0) 10 z.toNatClampNeg = -1)) "java/util/NoSuchElementException"))) (by rw [hE]; simp [kC]) ?_
      exact hret _ _ _ _ dL_clerkOf_17 (by rw [hE]; exact hP) (by rw [hE]; exact hD) hS
  ·
    refine lv_i2l (v := ((O 0) 10 z.toNatClampNeg).toInt64) hx hb dL_clerkOf_7 rfl ?_
    refine va_last hx hb hK hP hD hS 0 3 rfl rfl (by unfold vp_in; decide) dL_clerkOf_8 (fun H locs hP hD hS => ?_)
    rw [show (0 : Int32).toNatClampNeg = 0 from by decide] at hP hD
    have hP : va_P D vwCl (OUT T ob (vp_updL fo 0 ((O 0) 10 z.toNatClampNeg).toInt64) :: WIN T v B O g ln un nx pl f0 f1 f2) H := hP
    have hD : va_D A (OUT T ob (vp_updL fo 0 ((O 0) 10 z.toNatClampNeg).toInt64) :: WIN T v B O g ln un nx pl f0 f1 f2) := hD
    refine lv_goto (tgt := 18) hx hb dL_clerkOf_9 (by decide) ?_
    refine lv_iconst (v := 0) hx hb dL_clerkOf_18 (by decide) ?_
    refine endI (r := kC "java/lang/IndexOutOfBoundsException" (orE (chkB (inN z N) "java/lang/IndexOutOfBoundsException") (chkB (!decide ((O 0) 10 z.toNatClampNeg = -1)) "java/util/NoSuchElementException"))) (by rw [hE]; rfl) ?_
    exact hret _ _ _ _ dL_clerkOf_19 (by rw [hE]; exact hP) (by rw [hE]; exact hD) hS

set_option maxHeartbeats 4000000 in
set_option maxRecDepth 100000 in
theorem c_L_closedIn (l : Launch) (hl9 : l.stackTraces = false) (D : va_G) (T : Nat → ClassId) (aK aV : Nat → Nat) (v : Nat → Nat) (B : Nat → Nat → Nat) (O : Nat → Nat → Nat → Int32) (g : CSt) (ln un nx pl : Nat) (f0 f1 f2 : Nat → Int32) (ob : Nat) (fo : Nat → Int64) (z : Int32) (N : Nat) (K : Nat) (C : Nat) (nt : Nat) (hOI : OI (O 0) N K C nt) (sz : Nat) : Met l yL_closedIn wsL_closedIn ({ frames := 8, cells := 2, slots := 12, locals := 132 } : Room) (va_Pc [.ref (v 0), .int (z), .ref (ob)] (fun U => PSc D T aK aV (OUT T ob fo :: WIN T v B O g ln un nx pl f0 f1 f2) sz U ∧ NCX U)) (va_Qi (fun r9 (_ : Unit) => r9 = kC "java/lang/IndexOutOfBoundsException" (orE (chkB (inN z N) "java/lang/IndexOutOfBoundsException") (chkB (!decide ((O 0) 8 z.toNatClampNeg = 0)) "java/util/NoSuchElementException"))) (fun _ t => QS D T (va_A (OUT T ob fo :: WIN T v B O g ln un nx pl f0 f1 f2) sz) (wC (OUT T ob (vp_updL fo 0 ((O 0) 9 z.toNatClampNeg).toInt64) :: WIN T v B O g ln un nx pl f0 f1 f2) (OUT T ob fo :: WIN T v B O g ln un nx pl f0 f1 f2) (orE (chkB (inN z N) "java/lang/IndexOutOfBoundsException") (chkB (!decide ((O 0) 8 z.toNatClampNeg = 0)) "java/util/NoSuchElementException"))) t) (va_A (OUT T ob fo :: WIN T v B O g ln un nx pl f0 f1 f2) sz)) 2 12 (va_A (OUT T ob fo :: WIN T v B O g ln un nx pl f0 f1 f2) sz) := by
  have hcd : oneOf "java/lang/IndexOutOfBoundsException" "java/util/NoSuchElementException" (orE (chkB (inN z N) "java/lang/IndexOutOfBoundsException") (chkB (!decide ((O 0) 8 z.toNatClampNeg = 0)) "java/util/NoSuchElementException")) := oneOf_or (oneOf_chk (Or.inl rfl)) (oneOf_chk (Or.inr rfl))
  refine metLi (cc := cL_closedIn) (maxL := 4) (by decide) rfl (Nat.le_of_ble_eq_true rfl) ?_
  intro p e s m args below meth c Q ls A hx hb hml hown hts htab hNC hC hP hK hD hA hS hl hret
  have hown : s.vm.findClass RL = some m.cls := hown
  have hl : lv_has ls 4 [(0, .ref (v 0)), (1, .int (z)), (2, .ref (ob))] := hl
  have w1 := hts (Cond.classLink RL 55 "java/lang/IndexOutOfBoundsException") (List.mem_of_getElem? (i := 1) rfl)
  have w2 := hts (Cond.classLink RL 28 "java/util/NoSuchElementException") (List.mem_of_getElem? (i := 2) rfl)
  refine lv_aload_n hx hb dL_closedIn_0 rfl (lv_at hl 2 rfl) ?_
  refine lv_iconst (v := 0) hx hb dL_closedIn_1 (by decide) ?_
  refine lv_aload_n hx hb dL_closedIn_2 rfl (lv_at hl 0 rfl) ?_
  refine lv_iload_n hx hb dL_closedIn_3 rfl (lv_at hl 1 rfl) ?_
  refine wxVi (As := [.int (z)]) (rest := [.int 0, .ref (ob)]) ⟨hx, hb, hml, hown, hts⟩ (c_X9_closedIn l hl9 D T aK aV v B O g ln un nx pl f0 f1 f2 z N K C nt hOI _) (cwV 1 hts gL_closedIn_X9_closedIn rfl rfl rfl (by decide +kernel) ⟨Nat.le_of_ble_eq_true rfl, Nat.le_of_ble_eq_true rfl⟩) (Foc.cons (OUT T ob fo) _ _) (Foc.cons (OUT T ob fo) _ _) hC hK hP hD hS hA 0 rfl rfl rfl hl.1 rfl (Nat.le_of_ble_eq_true rfl) ⟨Nat.le_of_ble_eq_true rfl, Nat.le_of_ble_eq_true rfl⟩ dL_closedIn_4 (fun E ce q9 H locs hE hP hD hS hce hcv hcl => ?_) (fun H locs hE hP hD hS => ?_)
  ·
    rcases hcd E hE with rfl | rfl
    ·
      refine vx_catch (E := "java/lang/IndexOutOfBoundsException") (name := "java/lang/IndexOutOfBoundsException") hown [] ⟨0, 9, 12, 55⟩ [⟨0, 9, 15, 28⟩] (by rw [htab]; rfl) (fun z hz => absurd hz List.not_mem_nil) (by decide) (by decide) w1 (cast_self hC.2.2.2.2 "java/lang/IndexOutOfBoundsException" (by decide)) hce hcv hcl ?_
      refine lv_astore_n (lv' := [(3, .ref (q9)), (0, .ref (v 0)), (1, .int (z)), (2, .ref (ob))]) hx hb dL_closedIn_12 rfl hl (by decide) rfl (fun ls hl => ?_)
      refine lv_iconst (v := 1) hx hb dL_closedIn_13 (by decide) ?_
      refine endI (r := kC "java/lang/IndexOutOfBoundsException" (orE (chkB (inN z N) "java/lang/IndexOutOfBoundsException") (chkB (!decide ((O 0) 8 z.toNatClampNeg = 0)) "java/util/NoSuchElementException"))) (by rw [hE]; simp [kC]) ?_
      exact hret _ _ _ _ dL_closedIn_14 (by rw [hE]; exact hP) (by rw [hE]; exact hD) hS
    ·
      refine vx_catch (E := "java/util/NoSuchElementException") (name := "java/util/NoSuchElementException") hown [⟨0, 9, 12, 55⟩] ⟨0, 9, 15, 28⟩ [] (by rw [htab]; rfl) (fun z hz => by obtain rfl := List.mem_singleton.mp hz; exact Or.inr ⟨by decide, "java/lang/IndexOutOfBoundsException", w1, hNC "java/util/NoSuchElementException" (by decide) "java/lang/IndexOutOfBoundsException" (by decide) (by decide)⟩) (by decide) (by decide) w2 (cast_self hC.2.2.2.2 "java/util/NoSuchElementException" (by decide)) hce hcv hcl ?_
      refine lv_astore_n (lv' := [(3, .ref (q9)), (0, .ref (v 0)), (1, .int (z)), (2, .ref (ob))]) hx hb dL_closedIn_15 rfl hl (by decide) rfl (fun ls hl => ?_)
      refine lv_iconst (v := 2) hx hb dL_closedIn_16 (by decide) ?_
      refine endI (r := kC "java/lang/IndexOutOfBoundsException" (orE (chkB (inN z N) "java/lang/IndexOutOfBoundsException") (chkB (!decide ((O 0) 8 z.toNatClampNeg = 0)) "java/util/NoSuchElementException"))) (by rw [hE]; simp [kC]) ?_
      exact hret _ _ _ _ dL_closedIn_17 (by rw [hE]; exact hP) (by rw [hE]; exact hD) hS
  ·
    refine lv_i2l (v := ((O 0) 9 z.toNatClampNeg).toInt64) hx hb dL_closedIn_7 rfl ?_
    refine va_last hx hb hK hP hD hS 0 3 rfl rfl (by unfold vp_in; decide) dL_closedIn_8 (fun H locs hP hD hS => ?_)
    rw [show (0 : Int32).toNatClampNeg = 0 from by decide] at hP hD
    have hP : va_P D vwCl (OUT T ob (vp_updL fo 0 ((O 0) 9 z.toNatClampNeg).toInt64) :: WIN T v B O g ln un nx pl f0 f1 f2) H := hP
    have hD : va_D A (OUT T ob (vp_updL fo 0 ((O 0) 9 z.toNatClampNeg).toInt64) :: WIN T v B O g ln un nx pl f0 f1 f2) := hD
    refine lv_goto (tgt := 18) hx hb dL_closedIn_9 (by decide) ?_
    refine lv_iconst (v := 0) hx hb dL_closedIn_18 (by decide) ?_
    refine endI (r := kC "java/lang/IndexOutOfBoundsException" (orE (chkB (inN z N) "java/lang/IndexOutOfBoundsException") (chkB (!decide ((O 0) 8 z.toNatClampNeg = 0)) "java/util/NoSuchElementException"))) (by rw [hE]; rfl) ?_
    exact hret _ _ _ _ dL_closedIn_19 (by rw [hE]; exact hP) (by rw [hE]; exact hD) hS

set_option maxHeartbeats 4000000 in
set_option maxRecDepth 100000 in
theorem c_L_cloudOf (l : Launch) (hl9 : l.stackTraces = false) (D : va_G) (T : Nat → ClassId) (aK aV : Nat → Nat) (v : Nat → Nat) (B : Nat → Nat → Nat) (O : Nat → Nat → Nat → Int32) (g : CSt) (ln un nx pl : Nat) (f0 f1 f2 : Nat → Int32) (ob : Nat) (fo : Nat → Int64) (z : Int32) (N : Nat) (K : Nat) (C : Nat) (nt : Nat) (hOI : OI (O 0) N K C nt) (sz : Nat) : Met l yL_cloudOf wsL_cloudOf ({ frames := 9, cells := 1, slots := 6, locals := 153 } : Room) (va_Pc [.ref (v 0), .int (z), .ref (ob)] (fun U => PSc D T aK aV (OUT T ob fo :: WIN T v B O g ln un nx pl f0 f1 f2) sz U ∧ NCX U)) (va_Qi (fun r9 (_ : Unit) => r9 = kC "java/lang/IllegalArgumentException" (chkB (rg z 0 2000) "java/lang/IllegalArgumentException")) (fun _ t => QS D T (va_A (OUT T ob fo :: WIN T v B O g ln un nx pl f0 f1 f2) sz) (wC (OUT T ob (vp_updL fo 0 ((O 0) 1 (z.toNatClampNeg % C)).toInt64) :: WIN T v B O g ln un nx pl f0 f1 f2) (OUT T ob fo :: WIN T v B O g ln un nx pl f0 f1 f2) (chkB (rg z 0 2000) "java/lang/IllegalArgumentException")) t) (va_A (OUT T ob fo :: WIN T v B O g ln un nx pl f0 f1 f2) sz)) 1 6 (va_A (OUT T ob fo :: WIN T v B O g ln un nx pl f0 f1 f2) sz) := by
  have hcd : oneOf "java/lang/IllegalArgumentException" "java/lang/IllegalArgumentException" (chkB (rg z 0 2000) "java/lang/IllegalArgumentException") := oneOf_chk (Or.inl rfl)
  refine metLi (cc := cL_cloudOf) (maxL := 4) (by decide) rfl (Nat.le_of_ble_eq_true rfl) ?_
  intro p e s m args below meth c Q ls A hx hb hml hown hts htab hNC hC hP hK hD hA hS hl hret
  have hown : s.vm.findClass RL = some m.cls := hown
  have hl : lv_has ls 4 [(0, .ref (v 0)), (1, .int (z)), (2, .ref (ob))] := hl
  have w1 := hts (Cond.classLink RL 19 "java/lang/IllegalArgumentException") (List.mem_of_getElem? (i := 1) rfl)
  refine lv_aload_n hx hb dL_cloudOf_0 rfl (lv_at hl 2 rfl) ?_
  refine lv_iconst (v := 0) hx hb dL_cloudOf_1 (by decide) ?_
  refine lv_aload_n hx hb dL_cloudOf_2 rfl (lv_at hl 0 rfl) ?_
  refine lv_iload_n hx hb dL_cloudOf_3 rfl (lv_at hl 1 rfl) ?_
  refine wxVi (As := [.int (z)]) (rest := [.int 0, .ref (ob)]) ⟨hx, hb, hml, hown, hts⟩ (c_X9_cloudOf l hl9 D T aK aV v B O g ln un nx pl f0 f1 f2 z N K C nt hOI _) (cwV 1 hts gL_cloudOf_X9_cloudOf rfl rfl rfl (by decide +kernel) ⟨Nat.le_of_ble_eq_true rfl, Nat.le_of_ble_eq_true rfl⟩) (Foc.cons (OUT T ob fo) _ _) (Foc.cons (OUT T ob fo) _ _) hC hK hP hD hS hA 0 rfl rfl rfl hl.1 rfl (Nat.le_of_ble_eq_true rfl) ⟨Nat.le_of_ble_eq_true rfl, Nat.le_of_ble_eq_true rfl⟩ dL_cloudOf_4 (fun E ce q9 H locs hE hP hD hS hce hcv hcl => ?_) (fun H locs hE hP hD hS => ?_)
  ·
    obtain rfl : E = "java/lang/IllegalArgumentException" := (hcd E hE).elim id id
    refine vx_catch (E := "java/lang/IllegalArgumentException") (name := "java/lang/IllegalArgumentException") hown [] ⟨0, 9, 12, 19⟩ [] (by rw [htab]; rfl) (fun z hz => absurd hz List.not_mem_nil) (by decide) (by decide) w1 (cast_self hC.2.2.2.2 "java/lang/IllegalArgumentException" (by decide)) hce hcv hcl ?_
    refine lv_astore_n (lv' := [(3, .ref (q9)), (0, .ref (v 0)), (1, .int (z)), (2, .ref (ob))]) hx hb dL_cloudOf_12 rfl hl (by decide) rfl (fun ls hl => ?_)
    refine lv_iconst (v := 1) hx hb dL_cloudOf_13 (by decide) ?_
    refine endI (r := kC "java/lang/IllegalArgumentException" (chkB (rg z 0 2000) "java/lang/IllegalArgumentException")) (by rw [hE]; simp [kC]) ?_
    exact hret _ _ _ _ dL_cloudOf_14 (by rw [hE]; exact hP) (by rw [hE]; exact hD) hS
  ·
    refine lv_i2l (v := ((O 0) 1 (z.toNatClampNeg % C)).toInt64) hx hb dL_cloudOf_7 rfl ?_
    refine va_last hx hb hK hP hD hS 0 3 rfl rfl (by unfold vp_in; decide) dL_cloudOf_8 (fun H locs hP hD hS => ?_)
    rw [show (0 : Int32).toNatClampNeg = 0 from by decide] at hP hD
    have hP : va_P D vwCl (OUT T ob (vp_updL fo 0 ((O 0) 1 (z.toNatClampNeg % C)).toInt64) :: WIN T v B O g ln un nx pl f0 f1 f2) H := hP
    have hD : va_D A (OUT T ob (vp_updL fo 0 ((O 0) 1 (z.toNatClampNeg % C)).toInt64) :: WIN T v B O g ln un nx pl f0 f1 f2) := hD
    refine lv_goto (tgt := 15) hx hb dL_cloudOf_9 (by decide) ?_
    refine lv_iconst (v := 0) hx hb dL_cloudOf_15 (by decide) ?_
    refine endI (r := kC "java/lang/IllegalArgumentException" (chkB (rg z 0 2000) "java/lang/IllegalArgumentException")) (by rw [hE]; rfl) ?_
    exact hret _ _ _ _ dL_cloudOf_16 (by rw [hE]; exact hP) (by rw [hE]; exact hD) hS

set_option maxHeartbeats 4000000 in
set_option maxRecDepth 100000 in
theorem c_L_complaintsOf (l : Launch) (hl9 : l.stackTraces = false) (D : va_G) (T : Nat → ClassId) (aK aV : Nat → Nat) (v : Nat → Nat) (B : Nat → Nat → Nat) (O : Nat → Nat → Nat → Int32) (g : CSt) (ln un nx pl : Nat) (f0 f1 f2 : Nat → Int32) (ob : Nat) (fo : Nat → Int64) (z : Int32) (N : Nat) (K : Nat) (C : Nat) (nt : Nat) (hOI : OI (O 0) N K C nt) (sz : Nat) : Met l yL_complaintsOf wsL_complaintsOf ({ frames := 8, cells := 1, slots := 6, locals := 133 } : Room) (va_Pc [.ref (v 0), .int (z), .ref (ob)] (fun U => PSc D T aK aV (OUT T ob fo :: WIN T v B O g ln un nx pl f0 f1 f2) sz U ∧ NCX U)) (va_Qi (fun r9 (_ : Unit) => r9 = kC "java/lang/IllegalArgumentException" (chkB (rg z 0 99) "java/lang/IllegalArgumentException")) (fun _ t => QS D T (va_A (OUT T ob fo :: WIN T v B O g ln un nx pl f0 f1 f2) sz) (wC (OUT T ob (vp_updL fo 0 (cntI (fun k => decide ((O 0) 4 k = z)) N 0 0).toInt64) :: WIN T v B O g ln un nx pl f0 f1 f2) (OUT T ob fo :: WIN T v B O g ln un nx pl f0 f1 f2) (chkB (rg z 0 99) "java/lang/IllegalArgumentException")) t) (va_A (OUT T ob fo :: WIN T v B O g ln un nx pl f0 f1 f2) sz)) 1 6 (va_A (OUT T ob fo :: WIN T v B O g ln un nx pl f0 f1 f2) sz) := by
  have hcd : oneOf "java/lang/IllegalArgumentException" "java/lang/IllegalArgumentException" (chkB (rg z 0 99) "java/lang/IllegalArgumentException") := oneOf_chk (Or.inl rfl)
  refine metLi (cc := cL_complaintsOf) (maxL := 4) (by decide) rfl (Nat.le_of_ble_eq_true rfl) ?_
  intro p e s m args below meth c Q ls A hx hb hml hown hts htab hNC hC hP hK hD hA hS hl hret
  have hown : s.vm.findClass RL = some m.cls := hown
  have hl : lv_has ls 4 [(0, .ref (v 0)), (1, .int (z)), (2, .ref (ob))] := hl
  have w1 := hts (Cond.classLink RL 19 "java/lang/IllegalArgumentException") (List.mem_of_getElem? (i := 1) rfl)
  refine lv_aload_n hx hb dL_complaintsOf_0 rfl (lv_at hl 2 rfl) ?_
  refine lv_iconst (v := 0) hx hb dL_complaintsOf_1 (by decide) ?_
  refine lv_aload_n hx hb dL_complaintsOf_2 rfl (lv_at hl 0 rfl) ?_
  refine lv_iload_n hx hb dL_complaintsOf_3 rfl (lv_at hl 1 rfl) ?_
  refine wxVi (As := [.int (z)]) (rest := [.int 0, .ref (ob)]) ⟨hx, hb, hml, hown, hts⟩ (c_X9_complaintsOf l hl9 D T aK aV v B O g ln un nx pl f0 f1 f2 z N K C nt hOI _) (cwV 1 hts gL_complaintsOf_X9_complaintsOf rfl rfl rfl (by decide +kernel) ⟨Nat.le_of_ble_eq_true rfl, Nat.le_of_ble_eq_true rfl⟩) (Foc.cons (OUT T ob fo) _ _) (Foc.cons (OUT T ob fo) _ _) hC hK hP hD hS hA 0 rfl rfl rfl hl.1 rfl (Nat.le_of_ble_eq_true rfl) ⟨Nat.le_of_ble_eq_true rfl, Nat.le_of_ble_eq_true rfl⟩ dL_complaintsOf_4 (fun E ce q9 H locs hE hP hD hS hce hcv hcl => ?_) (fun H locs hE hP hD hS => ?_)
  ·
    obtain rfl : E = "java/lang/IllegalArgumentException" := (hcd E hE).elim id id
    refine vx_catch (E := "java/lang/IllegalArgumentException") (name := "java/lang/IllegalArgumentException") hown [] ⟨0, 9, 12, 19⟩ [] (by rw [htab]; rfl) (fun z hz => absurd hz List.not_mem_nil) (by decide) (by decide) w1 (cast_self hC.2.2.2.2 "java/lang/IllegalArgumentException" (by decide)) hce hcv hcl ?_
    refine lv_astore_n (lv' := [(3, .ref (q9)), (0, .ref (v 0)), (1, .int (z)), (2, .ref (ob))]) hx hb dL_complaintsOf_12 rfl hl (by decide) rfl (fun ls hl => ?_)
    refine lv_iconst (v := 1) hx hb dL_complaintsOf_13 (by decide) ?_
    refine endI (r := kC "java/lang/IllegalArgumentException" (chkB (rg z 0 99) "java/lang/IllegalArgumentException")) (by rw [hE]; simp [kC]) ?_
    exact hret _ _ _ _ dL_complaintsOf_14 (by rw [hE]; exact hP) (by rw [hE]; exact hD) hS
  ·
    refine lv_i2l (v := (cntI (fun k => decide ((O 0) 4 k = z)) N 0 0).toInt64) hx hb dL_complaintsOf_7 rfl ?_
    refine va_last hx hb hK hP hD hS 0 3 rfl rfl (by unfold vp_in; decide) dL_complaintsOf_8 (fun H locs hP hD hS => ?_)
    rw [show (0 : Int32).toNatClampNeg = 0 from by decide] at hP hD
    have hP : va_P D vwCl (OUT T ob (vp_updL fo 0 (cntI (fun k => decide ((O 0) 4 k = z)) N 0 0).toInt64) :: WIN T v B O g ln un nx pl f0 f1 f2) H := hP
    have hD : va_D A (OUT T ob (vp_updL fo 0 (cntI (fun k => decide ((O 0) 4 k = z)) N 0 0).toInt64) :: WIN T v B O g ln un nx pl f0 f1 f2) := hD
    refine lv_goto (tgt := 15) hx hb dL_complaintsOf_9 (by decide) ?_
    refine lv_iconst (v := 0) hx hb dL_complaintsOf_15 (by decide) ?_
    refine endI (r := kC "java/lang/IllegalArgumentException" (chkB (rg z 0 99) "java/lang/IllegalArgumentException")) (by rw [hE]; rfl) ?_
    exact hret _ _ _ _ dL_complaintsOf_16 (by rw [hE]; exact hP) (by rw [hE]; exact hD) hS

set_option maxHeartbeats 4000000 in
set_option maxRecDepth 100000 in
theorem c_L_darkestClerk (l : Launch) (hl9 : l.stackTraces = false) (D : va_G) (T : Nat → ClassId) (aK aV : Nat → Nat) (v : Nat → Nat) (B : Nat → Nat → Nat) (O : Nat → Nat → Nat → Int32) (g : CSt) (ln un nx pl : Nat) (f0 f1 f2 : Nat → Int32) (ob : Nat) (fo : Nat → Int64) (N : Nat) (K : Nat) (C : Nat) (nt : Nat) (hOI : OI (O 0) N K C nt) (sz : Nat) : Met l yL_darkestClerk wsL_darkestClerk ({ frames := 7, cells := 1, slots := 6, locals := 111 } : Room) (va_Pc [.ref (v 0), .ref (ob)] (fun U => PSc D T aK aV (OUT T ob fo :: WIN T v B O g ln un nx pl f0 f1 f2) sz U ∧ NCX U)) (va_Qi (fun r9 (_ : Unit) => r9 = kC "java/util/NoSuchElementException" (chkB (((minF (fun _ => true) ((O 0) 3) K 0 (none, 100)).1).isSome) "java/util/NoSuchElementException")) (fun _ t => QS D T (va_A (OUT T ob fo :: WIN T v B O g ln un nx pl f0 f1 f2) sz) (wC (OUT T ob (vp_updL fo 0 (((minF (fun _ => true) ((O 0) 3) K 0 (none, 100)).1).elim 0 nI).toInt64) :: WIN T v B O g ln un nx pl f0 f1 f2) (OUT T ob fo :: WIN T v B O g ln un nx pl f0 f1 f2) (chkB (((minF (fun _ => true) ((O 0) 3) K 0 (none, 100)).1).isSome) "java/util/NoSuchElementException")) t) (va_A (OUT T ob fo :: WIN T v B O g ln un nx pl f0 f1 f2) sz)) 1 6 (va_A (OUT T ob fo :: WIN T v B O g ln un nx pl f0 f1 f2) sz) := by
  have hcd : oneOf "java/util/NoSuchElementException" "java/util/NoSuchElementException" (chkB (((minF (fun _ => true) ((O 0) 3) K 0 (none, 100)).1).isSome) "java/util/NoSuchElementException") := oneOf_chk (Or.inl rfl)
  refine metLi (cc := cL_darkestClerk) (maxL := 3) (by decide) rfl (Nat.le_of_ble_eq_true rfl) ?_
  intro p e s m args below meth c Q ls A hx hb hml hown hts htab hNC hC hP hK hD hA hS hl hret
  have hown : s.vm.findClass RL = some m.cls := hown
  have hl : lv_has ls 3 [(0, .ref (v 0)), (1, .ref (ob))] := hl
  have w1 := hts (Cond.classLink RL 28 "java/util/NoSuchElementException") (List.mem_of_getElem? (i := 1) rfl)
  refine lv_aload_n hx hb dL_darkestClerk_0 rfl (lv_at hl 1 rfl) ?_
  refine lv_iconst (v := 0) hx hb dL_darkestClerk_1 (by decide) ?_
  refine lv_aload_n hx hb dL_darkestClerk_2 rfl (lv_at hl 0 rfl) ?_
  refine wxVi (As := []) (rest := [.int 0, .ref (ob)]) ⟨hx, hb, hml, hown, hts⟩ (c_X9_darkestClerk l hl9 D T aK aV v B O g ln un nx pl f0 f1 f2 N K C nt hOI _) (cwV 0 hts gL_darkestClerk_X9_darkestClerk rfl rfl rfl (by decide +kernel) ⟨Nat.le_of_ble_eq_true rfl, Nat.le_of_ble_eq_true rfl⟩) (Foc.cons (OUT T ob fo) _ _) (Foc.cons (OUT T ob fo) _ _) hC hK hP hD hS hA 0 rfl rfl rfl hl.1 rfl (Nat.le_of_ble_eq_true rfl) ⟨Nat.le_of_ble_eq_true rfl, Nat.le_of_ble_eq_true rfl⟩ dL_darkestClerk_3 (fun E ce q9 H locs hE hP hD hS hce hcv hcl => ?_) (fun H locs hE hP hD hS => ?_)
  ·
    obtain rfl : E = "java/util/NoSuchElementException" := (hcd E hE).elim id id
    refine vx_catch (E := "java/util/NoSuchElementException") (name := "java/util/NoSuchElementException") hown [] ⟨0, 8, 11, 28⟩ [] (by rw [htab]; rfl) (fun z hz => absurd hz List.not_mem_nil) (by decide) (by decide) w1 (cast_self hC.2.2.2.2 "java/util/NoSuchElementException" (by decide)) hce hcv hcl ?_
    refine lv_astore_n (lv' := [(2, .ref (q9)), (0, .ref (v 0)), (1, .ref (ob))]) hx hb dL_darkestClerk_11 rfl hl (by decide) rfl (fun ls hl => ?_)
    refine lv_iconst (v := 1) hx hb dL_darkestClerk_12 (by decide) ?_
    refine endI (r := kC "java/util/NoSuchElementException" (chkB (((minF (fun _ => true) ((O 0) 3) K 0 (none, 100)).1).isSome) "java/util/NoSuchElementException")) (by rw [hE]; simp [kC]) ?_
    exact hret _ _ _ _ dL_darkestClerk_13 (by rw [hE]; exact hP) (by rw [hE]; exact hD) hS
  ·
    refine lv_i2l (v := (((minF (fun _ => true) ((O 0) 3) K 0 (none, 100)).1).elim 0 nI).toInt64) hx hb dL_darkestClerk_6 rfl ?_
    refine va_last hx hb hK hP hD hS 0 3 rfl rfl (by unfold vp_in; decide) dL_darkestClerk_7 (fun H locs hP hD hS => ?_)
    rw [show (0 : Int32).toNatClampNeg = 0 from by decide] at hP hD
    have hP : va_P D vwCl (OUT T ob (vp_updL fo 0 (((minF (fun _ => true) ((O 0) 3) K 0 (none, 100)).1).elim 0 nI).toInt64) :: WIN T v B O g ln un nx pl f0 f1 f2) H := hP
    have hD : va_D A (OUT T ob (vp_updL fo 0 (((minF (fun _ => true) ((O 0) 3) K 0 (none, 100)).1).elim 0 nI).toInt64) :: WIN T v B O g ln un nx pl f0 f1 f2) := hD
    refine lv_goto (tgt := 14) hx hb dL_darkestClerk_8 (by decide) ?_
    refine lv_iconst (v := 0) hx hb dL_darkestClerk_14 (by decide) ?_
    refine endI (r := kC "java/util/NoSuchElementException" (chkB (((minF (fun _ => true) ((O 0) 3) K 0 (none, 100)).1).isSome) "java/util/NoSuchElementException")) (by rw [hE]; rfl) ?_
    exact hret _ _ _ _ dL_darkestClerk_15 (by rw [hE]; exact hP) (by rw [hE]; exact hD) hS

set_option maxHeartbeats 4000000 in
set_option maxRecDepth 100000 in
theorem c_L_endNights (l : Launch) (hl9 : l.stackTraces = false) (D : va_G) (T : Nat → ClassId) (aK aV : Nat → Nat) (v : Nat → Nat) (B : Nat → Nat → Nat) (O : Nat → Nat → Nat → Int32) (g : CSt) (ln un nx pl : Nat) (f0 f1 f2 : Nat → Int32) (ob : Nat) (fo : Nat → Int64) (z : Int32) (N : Nat) (K : Nat) (C : Nat) (nt : Nat) (hOI : OI (O 0) N K C nt) (hu : un ≤ 8) (hnx : nx < 8) (sz : Nat) : Met l yL_endNights wsL_endNights ({ frames := 8, cells := 2, slots := 12, locals := 154 } : Room) (va_Pc [.ref (v 0), .int (z), .ref (ob)] (fun U => PSc D T aK aV (OUT T ob fo :: WIN T v B O g ln un nx pl f0 f1 f2) sz U ∧ NCX U)) (va_Qi (fun r9 (_ : Unit) => r9 = kC "java/lang/IllegalArgumentException" (orE (chkB (rg z 1 60) "java/lang/IllegalArgumentException") (chkB (decide (nt + z.toNatClampNeg ≤ 999)) "java/lang/IllegalStateException"))) (fun _ t => QS D T (va_A (OUT T ob fo :: WIN T v B O g ln un nx pl f0 f1 f2) sz) (wC (OUT T ob (vp_updL fo 0 ((iter (endsC N K C nt) z.toNatClampNeg 0 (0, O 0)).1).toInt64) :: WIN T v B (va_up (va_up O (3 + nx) (O 0)) 0 ((iter (endsC N K C nt) z.toNatClampNeg 0 (0, O 0)).2)) g ln (if un = 8 then 8 else un + 1) ((nx + 1) % 8) pl f0 f1 f2) (OUT T ob fo :: WIN T v B O g ln un nx pl f0 f1 f2) (orE (chkB (rg z 1 60) "java/lang/IllegalArgumentException") (chkB (decide (nt + z.toNatClampNeg ≤ 999)) "java/lang/IllegalStateException"))) t) (va_A (OUT T ob fo :: WIN T v B O g ln un nx pl f0 f1 f2) sz)) 2 12 (va_A (OUT T ob fo :: WIN T v B O g ln un nx pl f0 f1 f2) sz) := by
  have hcd : oneOf "java/lang/IllegalArgumentException" "java/lang/IllegalStateException" (orE (chkB (rg z 1 60) "java/lang/IllegalArgumentException") (chkB (decide (nt + z.toNatClampNeg ≤ 999)) "java/lang/IllegalStateException")) := oneOf_or (oneOf_chk (Or.inl rfl)) (oneOf_chk (Or.inr rfl))
  refine metLi (cc := cL_endNights) (maxL := 4) (by decide) rfl (Nat.le_of_ble_eq_true rfl) ?_
  intro p e s m args below meth c Q ls A hx hb hml hown hts htab hNC hC hP hK hD hA hS hl hret
  have hown : s.vm.findClass RL = some m.cls := hown
  have hl : lv_has ls 4 [(0, .ref (v 0)), (1, .int (z)), (2, .ref (ob))] := hl
  have w1 := hts (Cond.classLink RL 19 "java/lang/IllegalArgumentException") (List.mem_of_getElem? (i := 1) rfl)
  have w2 := hts (Cond.classLink RL 13 "java/lang/IllegalStateException") (List.mem_of_getElem? (i := 2) rfl)
  refine lv_aload_n hx hb dL_endNights_0 rfl (lv_at hl 2 rfl) ?_
  refine lv_iconst (v := 0) hx hb dL_endNights_1 (by decide) ?_
  refine lv_aload_n hx hb dL_endNights_2 rfl (lv_at hl 0 rfl) ?_
  refine lv_iload_n hx hb dL_endNights_3 rfl (lv_at hl 1 rfl) ?_
  refine wxVi (As := [.int (z)]) (rest := [.int 0, .ref (ob)]) ⟨hx, hb, hml, hown, hts⟩ (c_X9_endNights l hl9 D T aK aV v B O g ln un nx pl f0 f1 f2 z N K C nt hOI hu hnx _) (cwV 1 hts gL_endNights_X9_endNights rfl rfl rfl (by decide +kernel) ⟨Nat.le_of_ble_eq_true rfl, Nat.le_of_ble_eq_true rfl⟩) (Foc.cons (OUT T ob fo) _ _) (Foc.cons (OUT T ob fo) _ _) hC hK hP hD hS hA 0 rfl rfl rfl hl.1 rfl (Nat.le_of_ble_eq_true rfl) ⟨Nat.le_of_ble_eq_true rfl, Nat.le_of_ble_eq_true rfl⟩ dL_endNights_4 (fun E ce q9 H locs hE hP hD hS hce hcv hcl => ?_) (fun H locs hE hP hD hS => ?_)
  ·
    rcases hcd E hE with rfl | rfl
    ·
      refine vx_catch (E := "java/lang/IllegalArgumentException") (name := "java/lang/IllegalArgumentException") hown [] ⟨0, 9, 12, 19⟩ [⟨0, 9, 15, 13⟩] (by rw [htab]; rfl) (fun z hz => absurd hz List.not_mem_nil) (by decide) (by decide) w1 (cast_self hC.2.2.2.2 "java/lang/IllegalArgumentException" (by decide)) hce hcv hcl ?_
      refine lv_astore_n (lv' := [(3, .ref (q9)), (0, .ref (v 0)), (1, .int (z)), (2, .ref (ob))]) hx hb dL_endNights_12 rfl hl (by decide) rfl (fun ls hl => ?_)
      refine lv_iconst (v := 1) hx hb dL_endNights_13 (by decide) ?_
      refine endI (r := kC "java/lang/IllegalArgumentException" (orE (chkB (rg z 1 60) "java/lang/IllegalArgumentException") (chkB (decide (nt + z.toNatClampNeg ≤ 999)) "java/lang/IllegalStateException"))) (by rw [hE]; simp [kC]) ?_
      exact hret _ _ _ _ dL_endNights_14 (by rw [hE]; exact hP) (by rw [hE]; exact hD) hS
    ·
      refine vx_catch (E := "java/lang/IllegalStateException") (name := "java/lang/IllegalStateException") hown [⟨0, 9, 12, 19⟩] ⟨0, 9, 15, 13⟩ [] (by rw [htab]; rfl) (fun z hz => by obtain rfl := List.mem_singleton.mp hz; exact Or.inr ⟨by decide, "java/lang/IllegalArgumentException", w1, hNC "java/lang/IllegalStateException" (by decide) "java/lang/IllegalArgumentException" (by decide) (by decide)⟩) (by decide) (by decide) w2 (cast_self hC.2.2.2.2 "java/lang/IllegalStateException" (by decide)) hce hcv hcl ?_
      refine lv_astore_n (lv' := [(3, .ref (q9)), (0, .ref (v 0)), (1, .int (z)), (2, .ref (ob))]) hx hb dL_endNights_15 rfl hl (by decide) rfl (fun ls hl => ?_)
      refine lv_iconst (v := 2) hx hb dL_endNights_16 (by decide) ?_
      refine endI (r := kC "java/lang/IllegalArgumentException" (orE (chkB (rg z 1 60) "java/lang/IllegalArgumentException") (chkB (decide (nt + z.toNatClampNeg ≤ 999)) "java/lang/IllegalStateException"))) (by rw [hE]; simp [kC]) ?_
      exact hret _ _ _ _ dL_endNights_17 (by rw [hE]; exact hP) (by rw [hE]; exact hD) hS
  ·
    refine lv_i2l (v := ((iter (endsC N K C nt) z.toNatClampNeg 0 (0, O 0)).1).toInt64) hx hb dL_endNights_7 rfl ?_
    refine va_last hx hb hK hP hD hS 0 3 rfl rfl (by unfold vp_in; decide) dL_endNights_8 (fun H locs hP hD hS => ?_)
    rw [show (0 : Int32).toNatClampNeg = 0 from by decide] at hP hD
    have hP : va_P D vwCl (OUT T ob (vp_updL fo 0 ((iter (endsC N K C nt) z.toNatClampNeg 0 (0, O 0)).1).toInt64) :: WIN T v B (va_up (va_up O (3 + nx) (O 0)) 0 ((iter (endsC N K C nt) z.toNatClampNeg 0 (0, O 0)).2)) g ln (if un = 8 then 8 else un + 1) ((nx + 1) % 8) pl f0 f1 f2) H := hP
    have hD : va_D A (OUT T ob (vp_updL fo 0 ((iter (endsC N K C nt) z.toNatClampNeg 0 (0, O 0)).1).toInt64) :: WIN T v B (va_up (va_up O (3 + nx) (O 0)) 0 ((iter (endsC N K C nt) z.toNatClampNeg 0 (0, O 0)).2)) g ln (if un = 8 then 8 else un + 1) ((nx + 1) % 8) pl f0 f1 f2) := hD
    refine lv_goto (tgt := 18) hx hb dL_endNights_9 (by decide) ?_
    refine lv_iconst (v := 0) hx hb dL_endNights_18 (by decide) ?_
    refine endI (r := kC "java/lang/IllegalArgumentException" (orE (chkB (rg z 1 60) "java/lang/IllegalArgumentException") (chkB (decide (nt + z.toNatClampNeg ≤ 999)) "java/lang/IllegalStateException"))) (by rw [hE]; rfl) ?_
    exact hret _ _ _ _ dL_endNights_19 (by rw [hE]; exact hP) (by rw [hE]; exact hD) hS

set_option maxHeartbeats 4000000 in
set_option maxRecDepth 100000 in
theorem c_L_errorOffset (l : Launch) (hl9 : l.stackTraces = false) (D : va_G) (T : Nat → ClassId) (aK aV : Nat → Nat) (v : Nat → Nat) (B : Nat → Nat → Nat) (O : Nat → Nat → Nat → Int32) (g : CSt) (ln un nx pl : Nat) (f0 f1 f2 : Nat → Int32) (ob : Nat) (fo : Nat → Int64)  (sz : Nat) : Met l yL_errorOffset wsL_errorOffset ({ frames := 7, cells := 1, slots := 6, locals := 110 } : Room) (va_Pc [.ref (v 0), .ref (ob)] (fun U => PSc D T aK aV (OUT T ob fo :: WIN T v B O g ln un nx pl f0 f1 f2) sz U ∧ NCX U)) (va_Qi (fun r9 (_ : Unit) => r9 = kC "java/util/NoSuchElementException" (chkB (g.2.2.2.1) "java/util/NoSuchElementException")) (fun _ t => QS D T (va_A (OUT T ob fo :: WIN T v B O g ln un nx pl f0 f1 f2) sz) (wC (OUT T ob (vp_updL fo 0 (g.2.2.2.2).toInt64) :: WIN T v B O g ln un nx pl f0 f1 f2) (OUT T ob fo :: WIN T v B O g ln un nx pl f0 f1 f2) (chkB (g.2.2.2.1) "java/util/NoSuchElementException")) t) (va_A (OUT T ob fo :: WIN T v B O g ln un nx pl f0 f1 f2) sz)) 1 6 (va_A (OUT T ob fo :: WIN T v B O g ln un nx pl f0 f1 f2) sz) := by
  have hcd : oneOf "java/util/NoSuchElementException" "java/util/NoSuchElementException" (chkB (g.2.2.2.1) "java/util/NoSuchElementException") := oneOf_chk (Or.inl rfl)
  refine metLi (cc := cL_errorOffset) (maxL := 3) (by decide) rfl (Nat.le_of_ble_eq_true rfl) ?_
  intro p e s m args below meth c Q ls A hx hb hml hown hts htab hNC hC hP hK hD hA hS hl hret
  have hown : s.vm.findClass RL = some m.cls := hown
  have hl : lv_has ls 3 [(0, .ref (v 0)), (1, .ref (ob))] := hl
  have w1 := hts (Cond.classLink RL 28 "java/util/NoSuchElementException") (List.mem_of_getElem? (i := 1) rfl)
  refine lv_aload_n hx hb dL_errorOffset_0 rfl (lv_at hl 1 rfl) ?_
  refine lv_iconst (v := 0) hx hb dL_errorOffset_1 (by decide) ?_
  refine lv_aload_n hx hb dL_errorOffset_2 rfl (lv_at hl 0 rfl) ?_
  refine wxVi (As := []) (rest := [.int 0, .ref (ob)]) ⟨hx, hb, hml, hown, hts⟩ (c_X9_errorOffset l hl9 D T aK aV v B O g ln un nx pl f0 f1 f2 _) (cwV 0 hts gL_errorOffset_X9_errorOffset rfl rfl rfl (by decide +kernel) ⟨Nat.le_of_ble_eq_true rfl, Nat.le_of_ble_eq_true rfl⟩) (Foc.cons (OUT T ob fo) _ _) (Foc.cons (OUT T ob fo) _ _) hC hK hP hD hS hA 0 rfl rfl rfl hl.1 rfl (Nat.le_of_ble_eq_true rfl) ⟨Nat.le_of_ble_eq_true rfl, Nat.le_of_ble_eq_true rfl⟩ dL_errorOffset_3 (fun E ce q9 H locs hE hP hD hS hce hcv hcl => ?_) (fun H locs hE hP hD hS => ?_)
  ·
    obtain rfl : E = "java/util/NoSuchElementException" := (hcd E hE).elim id id
    refine vx_catch (E := "java/util/NoSuchElementException") (name := "java/util/NoSuchElementException") hown [] ⟨0, 8, 11, 28⟩ [] (by rw [htab]; rfl) (fun z hz => absurd hz List.not_mem_nil) (by decide) (by decide) w1 (cast_self hC.2.2.2.2 "java/util/NoSuchElementException" (by decide)) hce hcv hcl ?_
    refine lv_astore_n (lv' := [(2, .ref (q9)), (0, .ref (v 0)), (1, .ref (ob))]) hx hb dL_errorOffset_11 rfl hl (by decide) rfl (fun ls hl => ?_)
    refine lv_iconst (v := 1) hx hb dL_errorOffset_12 (by decide) ?_
    refine endI (r := kC "java/util/NoSuchElementException" (chkB (g.2.2.2.1) "java/util/NoSuchElementException")) (by rw [hE]; simp [kC]) ?_
    exact hret _ _ _ _ dL_errorOffset_13 (by rw [hE]; exact hP) (by rw [hE]; exact hD) hS
  ·
    refine lv_i2l (v := (g.2.2.2.2).toInt64) hx hb dL_errorOffset_6 rfl ?_
    refine va_last hx hb hK hP hD hS 0 3 rfl rfl (by unfold vp_in; decide) dL_errorOffset_7 (fun H locs hP hD hS => ?_)
    rw [show (0 : Int32).toNatClampNeg = 0 from by decide] at hP hD
    have hP : va_P D vwCl (OUT T ob (vp_updL fo 0 (g.2.2.2.2).toInt64) :: WIN T v B O g ln un nx pl f0 f1 f2) H := hP
    have hD : va_D A (OUT T ob (vp_updL fo 0 (g.2.2.2.2).toInt64) :: WIN T v B O g ln un nx pl f0 f1 f2) := hD
    refine lv_goto (tgt := 14) hx hb dL_errorOffset_8 (by decide) ?_
    refine lv_iconst (v := 0) hx hb dL_errorOffset_14 (by decide) ?_
    refine endI (r := kC "java/util/NoSuchElementException" (chkB (g.2.2.2.1) "java/util/NoSuchElementException")) (by rw [hE]; rfl) ?_
    exact hret _ _ _ _ dL_errorOffset_15 (by rw [hE]; exact hP) (by rw [hE]; exact hD) hS

set_option maxHeartbeats 4000000 in
set_option maxRecDepth 100000 in
theorem c_L_fileComplaint (l : Launch) (hl9 : l.stackTraces = false) (D : va_G) (T : Nat → ClassId) (aK aV : Nat → Nat) (v : Nat → Nat) (B : Nat → Nat → Nat) (O : Nat → Nat → Nat → Int32) (g : CSt) (ln un nx pl : Nat) (f0 f1 f2 : Nat → Int32) (ob : Nat) (fo : Nat → Int64) (z : Int32) (z1 : Int32) (z2 : Int32) (N : Nat) (K : Nat) (C : Nat) (nt : Nat) (hOI : OI (O 0) N K C nt) (hu : un ≤ 8) (hnx : nx < 8) (sz : Nat) : Met l yL_fileComplaint wsL_fileComplaint ({ frames := 9, cells := 4, slots := 24, locals := 155 } : Room) (va_Pc [.ref (v 0), .int (z), .int (z1), .int (z2), .ref (ob)] (fun U => PSc D T aK aV (OUT T ob fo :: WIN T v B O g ln un nx pl f0 f1 f2) sz U ∧ NCX U)) (va_Qi (fun r9 (_ : Unit) => r9 = kC "java/lang/IllegalArgumentException" (orE (chkB (rg z 0 99) "java/lang/IllegalArgumentException") (orE (chkB (rg z1 0 3) "java/lang/IllegalArgumentException") (orE (chkB (rg z2 1 9) "java/lang/IllegalArgumentException") (orE (chkB (decide (N < 24)) "java/lang/IllegalStateException") (chkB ((findC (O 0) z z1 N).isNone) "java/lang/IllegalStateException")))))) (fun _ t => QS D T (va_A (OUT T ob fo :: WIN T v B O g ln un nx pl f0 f1 f2) sz) (wC (OUT T ob (vp_updL fo 0 (nI N).toInt64) :: WIN T v B (va_up (va_up O (3 + nx) (O 0)) 0 (pileAdd (O 0) N z z1 z2 ((O 0) 0 0))) g ln (if un = 8 then 8 else un + 1) ((nx + 1) % 8) pl f0 f1 f2) (OUT T ob fo :: WIN T v B O g ln un nx pl f0 f1 f2) (orE (chkB (rg z 0 99) "java/lang/IllegalArgumentException") (orE (chkB (rg z1 0 3) "java/lang/IllegalArgumentException") (orE (chkB (rg z2 1 9) "java/lang/IllegalArgumentException") (orE (chkB (decide (N < 24)) "java/lang/IllegalStateException") (chkB ((findC (O 0) z z1 N).isNone) "java/lang/IllegalStateException")))))) t) (va_A (OUT T ob fo :: WIN T v B O g ln un nx pl f0 f1 f2) sz)) 4 24 (va_A (OUT T ob fo :: WIN T v B O g ln un nx pl f0 f1 f2) sz) := by
  have hcd : oneOf "java/lang/IllegalArgumentException" "java/lang/IllegalStateException" (orE (chkB (rg z 0 99) "java/lang/IllegalArgumentException") (orE (chkB (rg z1 0 3) "java/lang/IllegalArgumentException") (orE (chkB (rg z2 1 9) "java/lang/IllegalArgumentException") (orE (chkB (decide (N < 24)) "java/lang/IllegalStateException") (chkB ((findC (O 0) z z1 N).isNone) "java/lang/IllegalStateException"))))) := oneOf_or (oneOf_chk (Or.inl rfl)) (oneOf_or (oneOf_chk (Or.inl rfl)) (oneOf_or (oneOf_chk (Or.inl rfl)) (oneOf_or (oneOf_chk (Or.inr rfl)) (oneOf_chk (Or.inr rfl)))))
  refine metLi (cc := cL_fileComplaint) (maxL := 6) (by decide) rfl (Nat.le_of_ble_eq_true rfl) ?_
  intro p e s m args below meth c Q ls A hx hb hml hown hts htab hNC hC hP hK hD hA hS hl hret
  have hown : s.vm.findClass RL = some m.cls := hown
  have hl : lv_has ls 6 [(0, .ref (v 0)), (1, .int (z)), (2, .int (z1)), (3, .int (z2)), (4, .ref (ob))] := hl
  have w1 := hts (Cond.classLink RL 19 "java/lang/IllegalArgumentException") (List.mem_of_getElem? (i := 1) rfl)
  have w2 := hts (Cond.classLink RL 13 "java/lang/IllegalStateException") (List.mem_of_getElem? (i := 2) rfl)
  refine lv_aload hx hb dL_fileComplaint_0 (lv_at hl 4 rfl) ?_
  refine lv_iconst (v := 0) hx hb dL_fileComplaint_2 (by decide) ?_
  refine lv_aload_n hx hb dL_fileComplaint_3 rfl (lv_at hl 0 rfl) ?_
  refine lv_iload_n hx hb dL_fileComplaint_4 rfl (lv_at hl 1 rfl) ?_
  refine lv_iload_n hx hb dL_fileComplaint_5 rfl (lv_at hl 2 rfl) ?_
  refine lv_iload_n hx hb dL_fileComplaint_6 rfl (lv_at hl 3 rfl) ?_
  refine wxVi (As := [.int (z), .int (z1), .int (z2)]) (rest := [.int 0, .ref (ob)]) ⟨hx, hb, hml, hown, hts⟩ (c_X9_fileComplaint l hl9 D T aK aV v B O g ln un nx pl f0 f1 f2 z z1 z2 N K C nt hOI hu hnx _) (cwV 3 hts gL_fileComplaint_X9_fileComplaint rfl rfl rfl (by decide +kernel) ⟨Nat.le_of_ble_eq_true rfl, Nat.le_of_ble_eq_true rfl⟩) (Foc.cons (OUT T ob fo) _ _) (Foc.cons (OUT T ob fo) _ _) hC hK hP hD hS hA 0 rfl rfl rfl hl.1 rfl (Nat.le_of_ble_eq_true rfl) ⟨Nat.le_of_ble_eq_true rfl, Nat.le_of_ble_eq_true rfl⟩ dL_fileComplaint_7 (fun E ce q9 H locs hE hP hD hS hce hcv hcl => ?_) (fun H locs hE hP hD hS => ?_)
  ·
    rcases hcd E hE with rfl | rfl
    ·
      refine vx_catch (E := "java/lang/IllegalArgumentException") (name := "java/lang/IllegalArgumentException") hown [] ⟨0, 12, 15, 19⟩ [⟨0, 12, 19, 13⟩] (by rw [htab]; rfl) (fun z hz => absurd hz List.not_mem_nil) (by decide) (by decide) w1 (cast_self hC.2.2.2.2 "java/lang/IllegalArgumentException" (by decide)) hce hcv hcl ?_
      refine lv_astore (lv' := [(5, .ref (q9)), (0, .ref (v 0)), (1, .int (z)), (2, .int (z1)), (3, .int (z2)), (4, .ref (ob))]) hx hb dL_fileComplaint_15 hl (by decide) rfl (fun ls hl => ?_)
      refine lv_iconst (v := 1) hx hb dL_fileComplaint_17 (by decide) ?_
      refine endI (r := kC "java/lang/IllegalArgumentException" (orE (chkB (rg z 0 99) "java/lang/IllegalArgumentException") (orE (chkB (rg z1 0 3) "java/lang/IllegalArgumentException") (orE (chkB (rg z2 1 9) "java/lang/IllegalArgumentException") (orE (chkB (decide (N < 24)) "java/lang/IllegalStateException") (chkB ((findC (O 0) z z1 N).isNone) "java/lang/IllegalStateException")))))) (by rw [hE]; simp [kC]) ?_
      exact hret _ _ _ _ dL_fileComplaint_18 (by rw [hE]; exact hP) (by rw [hE]; exact hD) hS
    ·
      refine vx_catch (E := "java/lang/IllegalStateException") (name := "java/lang/IllegalStateException") hown [⟨0, 12, 15, 19⟩] ⟨0, 12, 19, 13⟩ [] (by rw [htab]; rfl) (fun z hz => by obtain rfl := List.mem_singleton.mp hz; exact Or.inr ⟨by decide, "java/lang/IllegalArgumentException", w1, hNC "java/lang/IllegalStateException" (by decide) "java/lang/IllegalArgumentException" (by decide) (by decide)⟩) (by decide) (by decide) w2 (cast_self hC.2.2.2.2 "java/lang/IllegalStateException" (by decide)) hce hcv hcl ?_
      refine lv_astore (lv' := [(5, .ref (q9)), (0, .ref (v 0)), (1, .int (z)), (2, .int (z1)), (3, .int (z2)), (4, .ref (ob))]) hx hb dL_fileComplaint_19 hl (by decide) rfl (fun ls hl => ?_)
      refine lv_iconst (v := 2) hx hb dL_fileComplaint_21 (by decide) ?_
      refine endI (r := kC "java/lang/IllegalArgumentException" (orE (chkB (rg z 0 99) "java/lang/IllegalArgumentException") (orE (chkB (rg z1 0 3) "java/lang/IllegalArgumentException") (orE (chkB (rg z2 1 9) "java/lang/IllegalArgumentException") (orE (chkB (decide (N < 24)) "java/lang/IllegalStateException") (chkB ((findC (O 0) z z1 N).isNone) "java/lang/IllegalStateException")))))) (by rw [hE]; simp [kC]) ?_
      exact hret _ _ _ _ dL_fileComplaint_22 (by rw [hE]; exact hP) (by rw [hE]; exact hD) hS
  ·
    refine lv_i2l (v := (nI N).toInt64) hx hb dL_fileComplaint_10 rfl ?_
    refine va_last hx hb hK hP hD hS 0 3 rfl rfl (by unfold vp_in; decide) dL_fileComplaint_11 (fun H locs hP hD hS => ?_)
    rw [show (0 : Int32).toNatClampNeg = 0 from by decide] at hP hD
    have hP : va_P D vwCl (OUT T ob (vp_updL fo 0 (nI N).toInt64) :: WIN T v B (va_up (va_up O (3 + nx) (O 0)) 0 (pileAdd (O 0) N z z1 z2 ((O 0) 0 0))) g ln (if un = 8 then 8 else un + 1) ((nx + 1) % 8) pl f0 f1 f2) H := hP
    have hD : va_D A (OUT T ob (vp_updL fo 0 (nI N).toInt64) :: WIN T v B (va_up (va_up O (3 + nx) (O 0)) 0 (pileAdd (O 0) N z z1 z2 ((O 0) 0 0))) g ln (if un = 8 then 8 else un + 1) ((nx + 1) % 8) pl f0 f1 f2) := hD
    refine lv_goto (tgt := 23) hx hb dL_fileComplaint_12 (by decide) ?_
    refine lv_iconst (v := 0) hx hb dL_fileComplaint_23 (by decide) ?_
    refine endI (r := kC "java/lang/IllegalArgumentException" (orE (chkB (rg z 0 99) "java/lang/IllegalArgumentException") (orE (chkB (rg z1 0 3) "java/lang/IllegalArgumentException") (orE (chkB (rg z2 1 9) "java/lang/IllegalArgumentException") (orE (chkB (decide (N < 24)) "java/lang/IllegalStateException") (chkB ((findC (O 0) z z1 N).isNone) "java/lang/IllegalStateException")))))) (by rw [hE]; rfl) ?_
    exact hret _ _ _ _ dL_fileComplaint_24 (by rw [hE]; exact hP) (by rw [hE]; exact hD) hS

set_option maxHeartbeats 4000000 in
set_option maxRecDepth 100000 in
theorem c_L_filedIn (l : Launch) (hl9 : l.stackTraces = false) (D : va_G) (T : Nat → ClassId) (aK aV : Nat → Nat) (v : Nat → Nat) (B : Nat → Nat → Nat) (O : Nat → Nat → Nat → Int32) (g : CSt) (ln un nx pl : Nat) (f0 f1 f2 : Nat → Int32) (ob : Nat) (fo : Nat → Int64) (z : Int32) (N : Nat) (K : Nat) (C : Nat) (nt : Nat) (hOI : OI (O 0) N K C nt) (sz : Nat) : Met l yL_filedIn wsL_filedIn ({ frames := 8, cells := 1, slots := 6, locals := 132 } : Room) (va_Pc [.ref (v 0), .int (z), .ref (ob)] (fun U => PSc D T aK aV (OUT T ob fo :: WIN T v B O g ln un nx pl f0 f1 f2) sz U ∧ NCX U)) (va_Qi (fun r9 (_ : Unit) => r9 = kC "java/lang/IndexOutOfBoundsException" (chkB (inN z N) "java/lang/IndexOutOfBoundsException")) (fun _ t => QS D T (va_A (OUT T ob fo :: WIN T v B O g ln un nx pl f0 f1 f2) sz) (wC (OUT T ob (vp_updL fo 0 ((O 0) 7 z.toNatClampNeg).toInt64) :: WIN T v B O g ln un nx pl f0 f1 f2) (OUT T ob fo :: WIN T v B O g ln un nx pl f0 f1 f2) (chkB (inN z N) "java/lang/IndexOutOfBoundsException")) t) (va_A (OUT T ob fo :: WIN T v B O g ln un nx pl f0 f1 f2) sz)) 1 6 (va_A (OUT T ob fo :: WIN T v B O g ln un nx pl f0 f1 f2) sz) := by
  have hcd : oneOf "java/lang/IndexOutOfBoundsException" "java/lang/IndexOutOfBoundsException" (chkB (inN z N) "java/lang/IndexOutOfBoundsException") := oneOf_chk (Or.inl rfl)
  refine metLi (cc := cL_filedIn) (maxL := 4) (by decide) rfl (Nat.le_of_ble_eq_true rfl) ?_
  intro p e s m args below meth c Q ls A hx hb hml hown hts htab hNC hC hP hK hD hA hS hl hret
  have hown : s.vm.findClass RL = some m.cls := hown
  have hl : lv_has ls 4 [(0, .ref (v 0)), (1, .int (z)), (2, .ref (ob))] := hl
  have w1 := hts (Cond.classLink RL 55 "java/lang/IndexOutOfBoundsException") (List.mem_of_getElem? (i := 1) rfl)
  refine lv_aload_n hx hb dL_filedIn_0 rfl (lv_at hl 2 rfl) ?_
  refine lv_iconst (v := 0) hx hb dL_filedIn_1 (by decide) ?_
  refine lv_aload_n hx hb dL_filedIn_2 rfl (lv_at hl 0 rfl) ?_
  refine lv_iload_n hx hb dL_filedIn_3 rfl (lv_at hl 1 rfl) ?_
  refine wxVi (As := [.int (z)]) (rest := [.int 0, .ref (ob)]) ⟨hx, hb, hml, hown, hts⟩ (c_X9_filedIn l hl9 D T aK aV v B O g ln un nx pl f0 f1 f2 z N K C nt hOI _) (cwV 1 hts gL_filedIn_X9_filedIn rfl rfl rfl (by decide +kernel) ⟨Nat.le_of_ble_eq_true rfl, Nat.le_of_ble_eq_true rfl⟩) (Foc.cons (OUT T ob fo) _ _) (Foc.cons (OUT T ob fo) _ _) hC hK hP hD hS hA 0 rfl rfl rfl hl.1 rfl (Nat.le_of_ble_eq_true rfl) ⟨Nat.le_of_ble_eq_true rfl, Nat.le_of_ble_eq_true rfl⟩ dL_filedIn_4 (fun E ce q9 H locs hE hP hD hS hce hcv hcl => ?_) (fun H locs hE hP hD hS => ?_)
  ·
    obtain rfl : E = "java/lang/IndexOutOfBoundsException" := (hcd E hE).elim id id
    refine vx_catch (E := "java/lang/IndexOutOfBoundsException") (name := "java/lang/IndexOutOfBoundsException") hown [] ⟨0, 9, 12, 55⟩ [] (by rw [htab]; rfl) (fun z hz => absurd hz List.not_mem_nil) (by decide) (by decide) w1 (cast_self hC.2.2.2.2 "java/lang/IndexOutOfBoundsException" (by decide)) hce hcv hcl ?_
    refine lv_astore_n (lv' := [(3, .ref (q9)), (0, .ref (v 0)), (1, .int (z)), (2, .ref (ob))]) hx hb dL_filedIn_12 rfl hl (by decide) rfl (fun ls hl => ?_)
    refine lv_iconst (v := 1) hx hb dL_filedIn_13 (by decide) ?_
    refine endI (r := kC "java/lang/IndexOutOfBoundsException" (chkB (inN z N) "java/lang/IndexOutOfBoundsException")) (by rw [hE]; simp [kC]) ?_
    exact hret _ _ _ _ dL_filedIn_14 (by rw [hE]; exact hP) (by rw [hE]; exact hD) hS
  ·
    refine lv_i2l (v := ((O 0) 7 z.toNatClampNeg).toInt64) hx hb dL_filedIn_7 rfl ?_
    refine va_last hx hb hK hP hD hS 0 3 rfl rfl (by unfold vp_in; decide) dL_filedIn_8 (fun H locs hP hD hS => ?_)
    rw [show (0 : Int32).toNatClampNeg = 0 from by decide] at hP hD
    have hP : va_P D vwCl (OUT T ob (vp_updL fo 0 ((O 0) 7 z.toNatClampNeg).toInt64) :: WIN T v B O g ln un nx pl f0 f1 f2) H := hP
    have hD : va_D A (OUT T ob (vp_updL fo 0 ((O 0) 7 z.toNatClampNeg).toInt64) :: WIN T v B O g ln un nx pl f0 f1 f2) := hD
    refine lv_goto (tgt := 15) hx hb dL_filedIn_9 (by decide) ?_
    refine lv_iconst (v := 0) hx hb dL_filedIn_15 (by decide) ?_
    refine endI (r := kC "java/lang/IndexOutOfBoundsException" (chkB (inN z N) "java/lang/IndexOutOfBoundsException")) (by rw [hE]; rfl) ?_
    exact hret _ _ _ _ dL_filedIn_16 (by rw [hE]; exact hP) (by rw [hE]; exact hD) hS

set_option maxHeartbeats 4000000 in
set_option maxRecDepth 100000 in
theorem c_L_giveUp (l : Launch) (hl9 : l.stackTraces = false) (D : va_G) (T : Nat → ClassId) (aK aV : Nat → Nat) (v : Nat → Nat) (B : Nat → Nat → Nat) (O : Nat → Nat → Nat → Int32) (g : CSt) (ln un nx pl : Nat) (f0 f1 f2 : Nat → Int32) (ob : Nat) (fo : Nat → Int64) (z : Int32) (N : Nat) (K : Nat) (C : Nat) (nt : Nat) (hOI : OI (O 0) N K C nt) (hu : un ≤ 8) (hnx : nx < 8) (sz : Nat) : Met l yL_giveUp wsL_giveUp ({ frames := 8, cells := 2, slots := 12, locals := 132 } : Room) (va_Pc [.ref (v 0), .int (z), .ref (ob)] (fun U => PSc D T aK aV (OUT T ob fo :: WIN T v B O g ln un nx pl f0 f1 f2) sz U ∧ NCX U)) (va_Qi (fun r9 (_ : Unit) => r9 = kC "java/lang/IndexOutOfBoundsException" (orE (chkB (inN z N) "java/lang/IndexOutOfBoundsException") (chkB (decide ((O 0) 8 z.toNatClampNeg = 0)) "java/lang/IllegalStateException"))) (fun _ t => QS D T (va_A (OUT T ob fo :: WIN T v B O g ln un nx pl f0 f1 f2) sz) (wC (OUT T ob (vp_updL fo 0 ((O 0) 0 0 - (O 0) 7 z.toNatClampNeg).toInt64) :: WIN T v B (va_up (va_up O (3 + nx) (O 0)) 0 (pileClose (O 0) z.toNatClampNeg 3 ((O 0) 0 0) (-1))) g ln (if un = 8 then 8 else un + 1) ((nx + 1) % 8) pl f0 f1 f2) (OUT T ob fo :: WIN T v B O g ln un nx pl f0 f1 f2) (orE (chkB (inN z N) "java/lang/IndexOutOfBoundsException") (chkB (decide ((O 0) 8 z.toNatClampNeg = 0)) "java/lang/IllegalStateException"))) t) (va_A (OUT T ob fo :: WIN T v B O g ln un nx pl f0 f1 f2) sz)) 2 12 (va_A (OUT T ob fo :: WIN T v B O g ln un nx pl f0 f1 f2) sz) := by
  have hcd : oneOf "java/lang/IndexOutOfBoundsException" "java/lang/IllegalStateException" (orE (chkB (inN z N) "java/lang/IndexOutOfBoundsException") (chkB (decide ((O 0) 8 z.toNatClampNeg = 0)) "java/lang/IllegalStateException")) := oneOf_or (oneOf_chk (Or.inl rfl)) (oneOf_chk (Or.inr rfl))
  refine metLi (cc := cL_giveUp) (maxL := 4) (by decide) rfl (Nat.le_of_ble_eq_true rfl) ?_
  intro p e s m args below meth c Q ls A hx hb hml hown hts htab hNC hC hP hK hD hA hS hl hret
  have hown : s.vm.findClass RL = some m.cls := hown
  have hl : lv_has ls 4 [(0, .ref (v 0)), (1, .int (z)), (2, .ref (ob))] := hl
  have w1 := hts (Cond.classLink RL 55 "java/lang/IndexOutOfBoundsException") (List.mem_of_getElem? (i := 1) rfl)
  have w2 := hts (Cond.classLink RL 13 "java/lang/IllegalStateException") (List.mem_of_getElem? (i := 2) rfl)
  refine lv_aload_n hx hb dL_giveUp_0 rfl (lv_at hl 2 rfl) ?_
  refine lv_iconst (v := 0) hx hb dL_giveUp_1 (by decide) ?_
  refine lv_aload_n hx hb dL_giveUp_2 rfl (lv_at hl 0 rfl) ?_
  refine lv_iload_n hx hb dL_giveUp_3 rfl (lv_at hl 1 rfl) ?_
  refine wxVi (As := [.int (z)]) (rest := [.int 0, .ref (ob)]) ⟨hx, hb, hml, hown, hts⟩ (c_X9_giveUp l hl9 D T aK aV v B O g ln un nx pl f0 f1 f2 z N K C nt hOI hu hnx _) (cwV 1 hts gL_giveUp_X9_giveUp rfl rfl rfl (by decide +kernel) ⟨Nat.le_of_ble_eq_true rfl, Nat.le_of_ble_eq_true rfl⟩) (Foc.cons (OUT T ob fo) _ _) (Foc.cons (OUT T ob fo) _ _) hC hK hP hD hS hA 0 rfl rfl rfl hl.1 rfl (Nat.le_of_ble_eq_true rfl) ⟨Nat.le_of_ble_eq_true rfl, Nat.le_of_ble_eq_true rfl⟩ dL_giveUp_4 (fun E ce q9 H locs hE hP hD hS hce hcv hcl => ?_) (fun H locs hE hP hD hS => ?_)
  ·
    rcases hcd E hE with rfl | rfl
    ·
      refine vx_catch (E := "java/lang/IndexOutOfBoundsException") (name := "java/lang/IndexOutOfBoundsException") hown [] ⟨0, 9, 12, 55⟩ [⟨0, 9, 15, 13⟩] (by rw [htab]; rfl) (fun z hz => absurd hz List.not_mem_nil) (by decide) (by decide) w1 (cast_self hC.2.2.2.2 "java/lang/IndexOutOfBoundsException" (by decide)) hce hcv hcl ?_
      refine lv_astore_n (lv' := [(3, .ref (q9)), (0, .ref (v 0)), (1, .int (z)), (2, .ref (ob))]) hx hb dL_giveUp_12 rfl hl (by decide) rfl (fun ls hl => ?_)
      refine lv_iconst (v := 1) hx hb dL_giveUp_13 (by decide) ?_
      refine endI (r := kC "java/lang/IndexOutOfBoundsException" (orE (chkB (inN z N) "java/lang/IndexOutOfBoundsException") (chkB (decide ((O 0) 8 z.toNatClampNeg = 0)) "java/lang/IllegalStateException"))) (by rw [hE]; simp [kC]) ?_
      exact hret _ _ _ _ dL_giveUp_14 (by rw [hE]; exact hP) (by rw [hE]; exact hD) hS
    ·
      refine vx_catch (E := "java/lang/IllegalStateException") (name := "java/lang/IllegalStateException") hown [⟨0, 9, 12, 55⟩] ⟨0, 9, 15, 13⟩ [] (by rw [htab]; rfl) (fun z hz => by obtain rfl := List.mem_singleton.mp hz; exact Or.inr ⟨by decide, "java/lang/IndexOutOfBoundsException", w1, hNC "java/lang/IllegalStateException" (by decide) "java/lang/IndexOutOfBoundsException" (by decide) (by decide)⟩) (by decide) (by decide) w2 (cast_self hC.2.2.2.2 "java/lang/IllegalStateException" (by decide)) hce hcv hcl ?_
      refine lv_astore_n (lv' := [(3, .ref (q9)), (0, .ref (v 0)), (1, .int (z)), (2, .ref (ob))]) hx hb dL_giveUp_15 rfl hl (by decide) rfl (fun ls hl => ?_)
      refine lv_iconst (v := 2) hx hb dL_giveUp_16 (by decide) ?_
      refine endI (r := kC "java/lang/IndexOutOfBoundsException" (orE (chkB (inN z N) "java/lang/IndexOutOfBoundsException") (chkB (decide ((O 0) 8 z.toNatClampNeg = 0)) "java/lang/IllegalStateException"))) (by rw [hE]; simp [kC]) ?_
      exact hret _ _ _ _ dL_giveUp_17 (by rw [hE]; exact hP) (by rw [hE]; exact hD) hS
  ·
    refine lv_i2l (v := ((O 0) 0 0 - (O 0) 7 z.toNatClampNeg).toInt64) hx hb dL_giveUp_7 rfl ?_
    refine va_last hx hb hK hP hD hS 0 3 rfl rfl (by unfold vp_in; decide) dL_giveUp_8 (fun H locs hP hD hS => ?_)
    rw [show (0 : Int32).toNatClampNeg = 0 from by decide] at hP hD
    have hP : va_P D vwCl (OUT T ob (vp_updL fo 0 ((O 0) 0 0 - (O 0) 7 z.toNatClampNeg).toInt64) :: WIN T v B (va_up (va_up O (3 + nx) (O 0)) 0 (pileClose (O 0) z.toNatClampNeg 3 ((O 0) 0 0) (-1))) g ln (if un = 8 then 8 else un + 1) ((nx + 1) % 8) pl f0 f1 f2) H := hP
    have hD : va_D A (OUT T ob (vp_updL fo 0 ((O 0) 0 0 - (O 0) 7 z.toNatClampNeg).toInt64) :: WIN T v B (va_up (va_up O (3 + nx) (O 0)) 0 (pileClose (O 0) z.toNatClampNeg 3 ((O 0) 0 0) (-1))) g ln (if un = 8 then 8 else un + 1) ((nx + 1) % 8) pl f0 f1 f2) := hD
    refine lv_goto (tgt := 18) hx hb dL_giveUp_9 (by decide) ?_
    refine lv_iconst (v := 0) hx hb dL_giveUp_18 (by decide) ?_
    refine endI (r := kC "java/lang/IndexOutOfBoundsException" (orE (chkB (inN z N) "java/lang/IndexOutOfBoundsException") (chkB (decide ((O 0) 8 z.toNatClampNeg = 0)) "java/lang/IllegalStateException"))) (by rw [hE]; rfl) ?_
    exact hret _ _ _ _ dL_giveUp_19 (by rw [hE]; exact hP) (by rw [hE]; exact hD) hS

set_option maxHeartbeats 4000000 in
set_option maxRecDepth 100000 in
theorem c_L_isAnswered (l : Launch) (hl9 : l.stackTraces = false) (D : va_G) (T : Nat → ClassId) (aK aV : Nat → Nat) (v : Nat → Nat) (B : Nat → Nat → Nat) (O : Nat → Nat → Nat → Int32) (g : CSt) (ln un nx pl : Nat) (f0 f1 f2 : Nat → Int32) (ob : Nat) (fo : Nat → Int64) (z : Int32) (N : Nat) (K : Nat) (C : Nat) (nt : Nat) (hOI : OI (O 0) N K C nt) (sz : Nat) : Met l yL_isAnswered wsL_isAnswered ({ frames := 8, cells := 1, slots := 6, locals := 132 } : Room) (va_Pc [.ref (v 0), .int (z), .ref (ob)] (fun U => PSc D T aK aV (OUT T ob fo :: WIN T v B O g ln un nx pl f0 f1 f2) sz U ∧ NCX U)) (va_Qi (fun r9 (_ : Unit) => r9 = kC "java/lang/IndexOutOfBoundsException" (chkB (inN z N) "java/lang/IndexOutOfBoundsException")) (fun _ t => QS D T (va_A (OUT T ob fo :: WIN T v B O g ln un nx pl f0 f1 f2) sz) (wC (OUT T ob (vp_updL fo 0 (if ((decide ((O 0) 8 z.toNatClampNeg = 1))) then 1 else 0)) :: WIN T v B O g ln un nx pl f0 f1 f2) (OUT T ob fo :: WIN T v B O g ln un nx pl f0 f1 f2) (chkB (inN z N) "java/lang/IndexOutOfBoundsException")) t) (va_A (OUT T ob fo :: WIN T v B O g ln un nx pl f0 f1 f2) sz)) 1 6 (va_A (OUT T ob fo :: WIN T v B O g ln un nx pl f0 f1 f2) sz) := by
  have hcd : oneOf "java/lang/IndexOutOfBoundsException" "java/lang/IndexOutOfBoundsException" (chkB (inN z N) "java/lang/IndexOutOfBoundsException") := oneOf_chk (Or.inl rfl)
  refine metLi (cc := cL_isAnswered) (maxL := 4) (by decide) rfl (Nat.le_of_ble_eq_true rfl) ?_
  intro p e s m args below meth c Q ls A hx hb hml hown hts htab hNC hC hP hK hD hA hS hl hret
  have hown : s.vm.findClass RL = some m.cls := hown
  have hl : lv_has ls 4 [(0, .ref (v 0)), (1, .int (z)), (2, .ref (ob))] := hl
  have w1 := hts (Cond.classLink RL 55 "java/lang/IndexOutOfBoundsException") (List.mem_of_getElem? (i := 1) rfl)
  refine lv_aload_n hx hb dL_isAnswered_0 rfl (lv_at hl 2 rfl) ?_
  refine lv_iconst (v := 0) hx hb dL_isAnswered_1 (by decide) ?_
  refine lv_aload_n hx hb dL_isAnswered_2 rfl (lv_at hl 0 rfl) ?_
  refine lv_iload_n hx hb dL_isAnswered_3 rfl (lv_at hl 1 rfl) ?_
  refine wxVi (As := [.int (z)]) (rest := [.int 0, .ref (ob)]) ⟨hx, hb, hml, hown, hts⟩ (c_X9_isAnswered l hl9 D T aK aV v B O g ln un nx pl f0 f1 f2 z N K C nt hOI _) (cwV 1 hts gL_isAnswered_X9_isAnswered rfl rfl rfl (by decide +kernel) ⟨Nat.le_of_ble_eq_true rfl, Nat.le_of_ble_eq_true rfl⟩) (Foc.cons (OUT T ob fo) _ _) (Foc.cons (OUT T ob fo) _ _) hC hK hP hD hS hA 0 rfl rfl rfl hl.1 rfl (Nat.le_of_ble_eq_true rfl) ⟨Nat.le_of_ble_eq_true rfl, Nat.le_of_ble_eq_true rfl⟩ dL_isAnswered_4 (fun E ce q9 H locs hE hP hD hS hce hcv hcl => ?_) (fun H locs hE hP hD hS => ?_)
  ·
    obtain rfl : E = "java/lang/IndexOutOfBoundsException" := (hcd E hE).elim id id
    refine vx_catch (E := "java/lang/IndexOutOfBoundsException") (name := "java/lang/IndexOutOfBoundsException") hown [] ⟨0, 16, 19, 55⟩ [] (by rw [htab]; rfl) (fun z hz => absurd hz List.not_mem_nil) (by decide) (by decide) w1 (cast_self hC.2.2.2.2 "java/lang/IndexOutOfBoundsException" (by decide)) hce hcv hcl ?_
    refine lv_astore_n (lv' := [(3, .ref (q9)), (0, .ref (v 0)), (1, .int (z)), (2, .ref (ob))]) hx hb dL_isAnswered_19 rfl hl (by decide) rfl (fun ls hl => ?_)
    refine lv_iconst (v := 1) hx hb dL_isAnswered_20 (by decide) ?_
    refine endI (r := kC "java/lang/IndexOutOfBoundsException" (chkB (inN z N) "java/lang/IndexOutOfBoundsException")) (by rw [hE]; simp [kC]) ?_
    exact hret _ _ _ _ dL_isAnswered_21 (by rw [hE]; exact hP) (by rw [hE]; exact hD) hS
  ·
    refine lv_if_eq (tgt := 14) hx hb dL_isAnswered_7 (by decide) (fun cb => ?_) (fun cb => ?_)
    ·
      have cb : ¬ ((decide ((O 0) 8 z.toNatClampNeg = 1))) = true := by rw [bI_0.mp cb]; decide
      refine lv_lconst (v := 0) hx hb dL_isAnswered_14 rfl ?_
      refine va_last hx hb hK hP hD hS 0 3 rfl rfl (by unfold vp_in; decide) dL_isAnswered_15 (fun H locs hP hD hS => ?_)
      rw [show (0 : Int32).toNatClampNeg = 0 from by decide] at hP hD
      have hP : va_P D vwCl (OUT T ob (vp_updL fo 0 0) :: WIN T v B O g ln un nx pl f0 f1 f2) H := hP
      have hD : va_D A (OUT T ob (vp_updL fo 0 0) :: WIN T v B O g ln un nx pl f0 f1 f2) := hD
      refine lv_goto (tgt := 22) hx hb dL_isAnswered_16 (by decide) ?_
      refine lv_iconst (v := 0) hx hb dL_isAnswered_22 (by decide) ?_
      refine endI (r := kC "java/lang/IndexOutOfBoundsException" (chkB (inN z N) "java/lang/IndexOutOfBoundsException")) (by rw [hE]; rfl) ?_
      exact hret _ _ _ _ dL_isAnswered_23 (by rw [hE, if_neg cb]; exact hP) (by rw [hE, if_neg cb]; exact hD) hS
    ·
      have cb : ((decide ((O 0) 8 z.toNatClampNeg = 1))) = true := bI_n0.mp cb
      refine lv_lconst (v := 1) hx hb dL_isAnswered_10 rfl ?_
      refine lv_goto (tgt := 15) hx hb dL_isAnswered_11 (by decide) ?_
      refine va_last hx hb hK hP hD hS 0 3 rfl rfl (by unfold vp_in; decide) dL_isAnswered_15 (fun H locs hP hD hS => ?_)
      rw [show (0 : Int32).toNatClampNeg = 0 from by decide] at hP hD
      have hP : va_P D vwCl (OUT T ob (vp_updL fo 0 1) :: WIN T v B O g ln un nx pl f0 f1 f2) H := hP
      have hD : va_D A (OUT T ob (vp_updL fo 0 1) :: WIN T v B O g ln un nx pl f0 f1 f2) := hD
      refine lv_goto (tgt := 22) hx hb dL_isAnswered_16 (by decide) ?_
      refine lv_iconst (v := 0) hx hb dL_isAnswered_22 (by decide) ?_
      refine endI (r := kC "java/lang/IndexOutOfBoundsException" (chkB (inN z N) "java/lang/IndexOutOfBoundsException")) (by rw [hE]; rfl) ?_
      exact hret _ _ _ _ dL_isAnswered_23 (by rw [hE, if_pos cb]; exact hP) (by rw [hE, if_pos cb]; exact hD) hS

set_option maxHeartbeats 4000000 in
set_option maxRecDepth 100000 in
theorem c_L_isDismissed (l : Launch) (hl9 : l.stackTraces = false) (D : va_G) (T : Nat → ClassId) (aK aV : Nat → Nat) (v : Nat → Nat) (B : Nat → Nat → Nat) (O : Nat → Nat → Nat → Int32) (g : CSt) (ln un nx pl : Nat) (f0 f1 f2 : Nat → Int32) (ob : Nat) (fo : Nat → Int64) (z : Int32) (N : Nat) (K : Nat) (C : Nat) (nt : Nat) (hOI : OI (O 0) N K C nt) (sz : Nat) : Met l yL_isDismissed wsL_isDismissed ({ frames := 8, cells := 1, slots := 6, locals := 132 } : Room) (va_Pc [.ref (v 0), .int (z), .ref (ob)] (fun U => PSc D T aK aV (OUT T ob fo :: WIN T v B O g ln un nx pl f0 f1 f2) sz U ∧ NCX U)) (va_Qi (fun r9 (_ : Unit) => r9 = kC "java/lang/IndexOutOfBoundsException" (chkB (inN z N) "java/lang/IndexOutOfBoundsException")) (fun _ t => QS D T (va_A (OUT T ob fo :: WIN T v B O g ln un nx pl f0 f1 f2) sz) (wC (OUT T ob (vp_updL fo 0 (if ((decide ((O 0) 8 z.toNatClampNeg = 2))) then 1 else 0)) :: WIN T v B O g ln un nx pl f0 f1 f2) (OUT T ob fo :: WIN T v B O g ln un nx pl f0 f1 f2) (chkB (inN z N) "java/lang/IndexOutOfBoundsException")) t) (va_A (OUT T ob fo :: WIN T v B O g ln un nx pl f0 f1 f2) sz)) 1 6 (va_A (OUT T ob fo :: WIN T v B O g ln un nx pl f0 f1 f2) sz) := by
  have hcd : oneOf "java/lang/IndexOutOfBoundsException" "java/lang/IndexOutOfBoundsException" (chkB (inN z N) "java/lang/IndexOutOfBoundsException") := oneOf_chk (Or.inl rfl)
  refine metLi (cc := cL_isDismissed) (maxL := 4) (by decide) rfl (Nat.le_of_ble_eq_true rfl) ?_
  intro p e s m args below meth c Q ls A hx hb hml hown hts htab hNC hC hP hK hD hA hS hl hret
  have hown : s.vm.findClass RL = some m.cls := hown
  have hl : lv_has ls 4 [(0, .ref (v 0)), (1, .int (z)), (2, .ref (ob))] := hl
  have w1 := hts (Cond.classLink RL 55 "java/lang/IndexOutOfBoundsException") (List.mem_of_getElem? (i := 1) rfl)
  refine lv_aload_n hx hb dL_isDismissed_0 rfl (lv_at hl 2 rfl) ?_
  refine lv_iconst (v := 0) hx hb dL_isDismissed_1 (by decide) ?_
  refine lv_aload_n hx hb dL_isDismissed_2 rfl (lv_at hl 0 rfl) ?_
  refine lv_iload_n hx hb dL_isDismissed_3 rfl (lv_at hl 1 rfl) ?_
  refine wxVi (As := [.int (z)]) (rest := [.int 0, .ref (ob)]) ⟨hx, hb, hml, hown, hts⟩ (c_X9_isDismissed l hl9 D T aK aV v B O g ln un nx pl f0 f1 f2 z N K C nt hOI _) (cwV 1 hts gL_isDismissed_X9_isDismissed rfl rfl rfl (by decide +kernel) ⟨Nat.le_of_ble_eq_true rfl, Nat.le_of_ble_eq_true rfl⟩) (Foc.cons (OUT T ob fo) _ _) (Foc.cons (OUT T ob fo) _ _) hC hK hP hD hS hA 0 rfl rfl rfl hl.1 rfl (Nat.le_of_ble_eq_true rfl) ⟨Nat.le_of_ble_eq_true rfl, Nat.le_of_ble_eq_true rfl⟩ dL_isDismissed_4 (fun E ce q9 H locs hE hP hD hS hce hcv hcl => ?_) (fun H locs hE hP hD hS => ?_)
  ·
    obtain rfl : E = "java/lang/IndexOutOfBoundsException" := (hcd E hE).elim id id
    refine vx_catch (E := "java/lang/IndexOutOfBoundsException") (name := "java/lang/IndexOutOfBoundsException") hown [] ⟨0, 16, 19, 55⟩ [] (by rw [htab]; rfl) (fun z hz => absurd hz List.not_mem_nil) (by decide) (by decide) w1 (cast_self hC.2.2.2.2 "java/lang/IndexOutOfBoundsException" (by decide)) hce hcv hcl ?_
    refine lv_astore_n (lv' := [(3, .ref (q9)), (0, .ref (v 0)), (1, .int (z)), (2, .ref (ob))]) hx hb dL_isDismissed_19 rfl hl (by decide) rfl (fun ls hl => ?_)
    refine lv_iconst (v := 1) hx hb dL_isDismissed_20 (by decide) ?_
    refine endI (r := kC "java/lang/IndexOutOfBoundsException" (chkB (inN z N) "java/lang/IndexOutOfBoundsException")) (by rw [hE]; simp [kC]) ?_
    exact hret _ _ _ _ dL_isDismissed_21 (by rw [hE]; exact hP) (by rw [hE]; exact hD) hS
  ·
    refine lv_if_eq (tgt := 14) hx hb dL_isDismissed_7 (by decide) (fun cb => ?_) (fun cb => ?_)
    ·
      have cb : ¬ ((decide ((O 0) 8 z.toNatClampNeg = 2))) = true := by rw [bI_0.mp cb]; decide
      refine lv_lconst (v := 0) hx hb dL_isDismissed_14 rfl ?_
      refine va_last hx hb hK hP hD hS 0 3 rfl rfl (by unfold vp_in; decide) dL_isDismissed_15 (fun H locs hP hD hS => ?_)
      rw [show (0 : Int32).toNatClampNeg = 0 from by decide] at hP hD
      have hP : va_P D vwCl (OUT T ob (vp_updL fo 0 0) :: WIN T v B O g ln un nx pl f0 f1 f2) H := hP
      have hD : va_D A (OUT T ob (vp_updL fo 0 0) :: WIN T v B O g ln un nx pl f0 f1 f2) := hD
      refine lv_goto (tgt := 22) hx hb dL_isDismissed_16 (by decide) ?_
      refine lv_iconst (v := 0) hx hb dL_isDismissed_22 (by decide) ?_
      refine endI (r := kC "java/lang/IndexOutOfBoundsException" (chkB (inN z N) "java/lang/IndexOutOfBoundsException")) (by rw [hE]; rfl) ?_
      exact hret _ _ _ _ dL_isDismissed_23 (by rw [hE, if_neg cb]; exact hP) (by rw [hE, if_neg cb]; exact hD) hS
    ·
      have cb : ((decide ((O 0) 8 z.toNatClampNeg = 2))) = true := bI_n0.mp cb
      refine lv_lconst (v := 1) hx hb dL_isDismissed_10 rfl ?_
      refine lv_goto (tgt := 15) hx hb dL_isDismissed_11 (by decide) ?_
      refine va_last hx hb hK hP hD hS 0 3 rfl rfl (by unfold vp_in; decide) dL_isDismissed_15 (fun H locs hP hD hS => ?_)
      rw [show (0 : Int32).toNatClampNeg = 0 from by decide] at hP hD
      have hP : va_P D vwCl (OUT T ob (vp_updL fo 0 1) :: WIN T v B O g ln un nx pl f0 f1 f2) H := hP
      have hD : va_D A (OUT T ob (vp_updL fo 0 1) :: WIN T v B O g ln un nx pl f0 f1 f2) := hD
      refine lv_goto (tgt := 22) hx hb dL_isDismissed_16 (by decide) ?_
      refine lv_iconst (v := 0) hx hb dL_isDismissed_22 (by decide) ?_
      refine endI (r := kC "java/lang/IndexOutOfBoundsException" (chkB (inN z N) "java/lang/IndexOutOfBoundsException")) (by rw [hE]; rfl) ?_
      exact hret _ _ _ _ dL_isDismissed_23 (by rw [hE, if_pos cb]; exact hP) (by rw [hE, if_pos cb]; exact hD) hS

set_option maxHeartbeats 4000000 in
set_option maxRecDepth 100000 in
theorem c_L_isGivenUp (l : Launch) (hl9 : l.stackTraces = false) (D : va_G) (T : Nat → ClassId) (aK aV : Nat → Nat) (v : Nat → Nat) (B : Nat → Nat → Nat) (O : Nat → Nat → Nat → Int32) (g : CSt) (ln un nx pl : Nat) (f0 f1 f2 : Nat → Int32) (ob : Nat) (fo : Nat → Int64) (z : Int32) (N : Nat) (K : Nat) (C : Nat) (nt : Nat) (hOI : OI (O 0) N K C nt) (sz : Nat) : Met l yL_isGivenUp wsL_isGivenUp ({ frames := 8, cells := 1, slots := 6, locals := 132 } : Room) (va_Pc [.ref (v 0), .int (z), .ref (ob)] (fun U => PSc D T aK aV (OUT T ob fo :: WIN T v B O g ln un nx pl f0 f1 f2) sz U ∧ NCX U)) (va_Qi (fun r9 (_ : Unit) => r9 = kC "java/lang/IndexOutOfBoundsException" (chkB (inN z N) "java/lang/IndexOutOfBoundsException")) (fun _ t => QS D T (va_A (OUT T ob fo :: WIN T v B O g ln un nx pl f0 f1 f2) sz) (wC (OUT T ob (vp_updL fo 0 (if ((decide ((O 0) 8 z.toNatClampNeg = 3))) then 1 else 0)) :: WIN T v B O g ln un nx pl f0 f1 f2) (OUT T ob fo :: WIN T v B O g ln un nx pl f0 f1 f2) (chkB (inN z N) "java/lang/IndexOutOfBoundsException")) t) (va_A (OUT T ob fo :: WIN T v B O g ln un nx pl f0 f1 f2) sz)) 1 6 (va_A (OUT T ob fo :: WIN T v B O g ln un nx pl f0 f1 f2) sz) := by
  have hcd : oneOf "java/lang/IndexOutOfBoundsException" "java/lang/IndexOutOfBoundsException" (chkB (inN z N) "java/lang/IndexOutOfBoundsException") := oneOf_chk (Or.inl rfl)
  refine metLi (cc := cL_isGivenUp) (maxL := 4) (by decide) rfl (Nat.le_of_ble_eq_true rfl) ?_
  intro p e s m args below meth c Q ls A hx hb hml hown hts htab hNC hC hP hK hD hA hS hl hret
  have hown : s.vm.findClass RL = some m.cls := hown
  have hl : lv_has ls 4 [(0, .ref (v 0)), (1, .int (z)), (2, .ref (ob))] := hl
  have w1 := hts (Cond.classLink RL 55 "java/lang/IndexOutOfBoundsException") (List.mem_of_getElem? (i := 1) rfl)
  refine lv_aload_n hx hb dL_isGivenUp_0 rfl (lv_at hl 2 rfl) ?_
  refine lv_iconst (v := 0) hx hb dL_isGivenUp_1 (by decide) ?_
  refine lv_aload_n hx hb dL_isGivenUp_2 rfl (lv_at hl 0 rfl) ?_
  refine lv_iload_n hx hb dL_isGivenUp_3 rfl (lv_at hl 1 rfl) ?_
  refine wxVi (As := [.int (z)]) (rest := [.int 0, .ref (ob)]) ⟨hx, hb, hml, hown, hts⟩ (c_X9_isGivenUp l hl9 D T aK aV v B O g ln un nx pl f0 f1 f2 z N K C nt hOI _) (cwV 1 hts gL_isGivenUp_X9_isGivenUp rfl rfl rfl (by decide +kernel) ⟨Nat.le_of_ble_eq_true rfl, Nat.le_of_ble_eq_true rfl⟩) (Foc.cons (OUT T ob fo) _ _) (Foc.cons (OUT T ob fo) _ _) hC hK hP hD hS hA 0 rfl rfl rfl hl.1 rfl (Nat.le_of_ble_eq_true rfl) ⟨Nat.le_of_ble_eq_true rfl, Nat.le_of_ble_eq_true rfl⟩ dL_isGivenUp_4 (fun E ce q9 H locs hE hP hD hS hce hcv hcl => ?_) (fun H locs hE hP hD hS => ?_)
  ·
    obtain rfl : E = "java/lang/IndexOutOfBoundsException" := (hcd E hE).elim id id
    refine vx_catch (E := "java/lang/IndexOutOfBoundsException") (name := "java/lang/IndexOutOfBoundsException") hown [] ⟨0, 16, 19, 55⟩ [] (by rw [htab]; rfl) (fun z hz => absurd hz List.not_mem_nil) (by decide) (by decide) w1 (cast_self hC.2.2.2.2 "java/lang/IndexOutOfBoundsException" (by decide)) hce hcv hcl ?_
    refine lv_astore_n (lv' := [(3, .ref (q9)), (0, .ref (v 0)), (1, .int (z)), (2, .ref (ob))]) hx hb dL_isGivenUp_19 rfl hl (by decide) rfl (fun ls hl => ?_)
    refine lv_iconst (v := 1) hx hb dL_isGivenUp_20 (by decide) ?_
    refine endI (r := kC "java/lang/IndexOutOfBoundsException" (chkB (inN z N) "java/lang/IndexOutOfBoundsException")) (by rw [hE]; simp [kC]) ?_
    exact hret _ _ _ _ dL_isGivenUp_21 (by rw [hE]; exact hP) (by rw [hE]; exact hD) hS
  ·
    refine lv_if_eq (tgt := 14) hx hb dL_isGivenUp_7 (by decide) (fun cb => ?_) (fun cb => ?_)
    ·
      have cb : ¬ ((decide ((O 0) 8 z.toNatClampNeg = 3))) = true := by rw [bI_0.mp cb]; decide
      refine lv_lconst (v := 0) hx hb dL_isGivenUp_14 rfl ?_
      refine va_last hx hb hK hP hD hS 0 3 rfl rfl (by unfold vp_in; decide) dL_isGivenUp_15 (fun H locs hP hD hS => ?_)
      rw [show (0 : Int32).toNatClampNeg = 0 from by decide] at hP hD
      have hP : va_P D vwCl (OUT T ob (vp_updL fo 0 0) :: WIN T v B O g ln un nx pl f0 f1 f2) H := hP
      have hD : va_D A (OUT T ob (vp_updL fo 0 0) :: WIN T v B O g ln un nx pl f0 f1 f2) := hD
      refine lv_goto (tgt := 22) hx hb dL_isGivenUp_16 (by decide) ?_
      refine lv_iconst (v := 0) hx hb dL_isGivenUp_22 (by decide) ?_
      refine endI (r := kC "java/lang/IndexOutOfBoundsException" (chkB (inN z N) "java/lang/IndexOutOfBoundsException")) (by rw [hE]; rfl) ?_
      exact hret _ _ _ _ dL_isGivenUp_23 (by rw [hE, if_neg cb]; exact hP) (by rw [hE, if_neg cb]; exact hD) hS
    ·
      have cb : ((decide ((O 0) 8 z.toNatClampNeg = 3))) = true := bI_n0.mp cb
      refine lv_lconst (v := 1) hx hb dL_isGivenUp_10 rfl ?_
      refine lv_goto (tgt := 15) hx hb dL_isGivenUp_11 (by decide) ?_
      refine va_last hx hb hK hP hD hS 0 3 rfl rfl (by unfold vp_in; decide) dL_isGivenUp_15 (fun H locs hP hD hS => ?_)
      rw [show (0 : Int32).toNatClampNeg = 0 from by decide] at hP hD
      have hP : va_P D vwCl (OUT T ob (vp_updL fo 0 1) :: WIN T v B O g ln un nx pl f0 f1 f2) H := hP
      have hD : va_D A (OUT T ob (vp_updL fo 0 1) :: WIN T v B O g ln un nx pl f0 f1 f2) := hD
      refine lv_goto (tgt := 22) hx hb dL_isGivenUp_16 (by decide) ?_
      refine lv_iconst (v := 0) hx hb dL_isGivenUp_22 (by decide) ?_
      refine endI (r := kC "java/lang/IndexOutOfBoundsException" (chkB (inN z N) "java/lang/IndexOutOfBoundsException")) (by rw [hE]; rfl) ?_
      exact hret _ _ _ _ dL_isGivenUp_23 (by rw [hE, if_pos cb]; exact hP) (by rw [hE, if_pos cb]; exact hD) hS

set_option maxHeartbeats 4000000 in
set_option maxRecDepth 100000 in
theorem c_L_isJustified (l : Launch) (hl9 : l.stackTraces = false) (D : va_G) (T : Nat → ClassId) (aK aV : Nat → Nat) (v : Nat → Nat) (B : Nat → Nat → Nat) (O : Nat → Nat → Nat → Int32) (g : CSt) (ln un nx pl : Nat) (f0 f1 f2 : Nat → Int32) (ob : Nat) (fo : Nat → Int64) (z : Int32) (z1 : Int32) (N : Nat) (K : Nat) (C : Nat) (nt : Nat) (hOI : OI (O 0) N K C nt) (sz : Nat) : Met l yL_isJustified wsL_isJustified ({ frames := 9, cells := 2, slots := 12, locals := 154 } : Room) (va_Pc [.ref (v 0), .int (z), .int (z1), .ref (ob)] (fun U => PSc D T aK aV (OUT T ob fo :: WIN T v B O g ln un nx pl f0 f1 f2) sz U ∧ NCX U)) (va_Qi (fun r9 (_ : Unit) => r9 = kC "java/lang/IllegalArgumentException" (orE (chkB (rg z 0 3) "java/lang/IllegalArgumentException") (chkB (rg z1 0 2000) "java/lang/IllegalArgumentException"))) (fun _ t => QS D T (va_A (OUT T ob fo :: WIN T v B O g ln un nx pl f0 f1 f2) sz) (wC (OUT T ob (vp_updL fo 0 (if ((justB z.toNatClampNeg ((O 0) 0 1) ((O 0) 0 2) ((O 0) 0 3) z1.toNatClampNeg ((O 0) 1 (z1.toNatClampNeg % C)))) then 1 else 0)) :: WIN T v B O g ln un nx pl f0 f1 f2) (OUT T ob fo :: WIN T v B O g ln un nx pl f0 f1 f2) (orE (chkB (rg z 0 3) "java/lang/IllegalArgumentException") (chkB (rg z1 0 2000) "java/lang/IllegalArgumentException"))) t) (va_A (OUT T ob fo :: WIN T v B O g ln un nx pl f0 f1 f2) sz)) 2 12 (va_A (OUT T ob fo :: WIN T v B O g ln un nx pl f0 f1 f2) sz) := by
  have hcd : oneOf "java/lang/IllegalArgumentException" "java/lang/IllegalArgumentException" (orE (chkB (rg z 0 3) "java/lang/IllegalArgumentException") (chkB (rg z1 0 2000) "java/lang/IllegalArgumentException")) := oneOf_or (oneOf_chk (Or.inl rfl)) (oneOf_chk (Or.inl rfl))
  refine metLi (cc := cL_isJustified) (maxL := 5) (by decide) rfl (Nat.le_of_ble_eq_true rfl) ?_
  intro p e s m args below meth c Q ls A hx hb hml hown hts htab hNC hC hP hK hD hA hS hl hret
  have hown : s.vm.findClass RL = some m.cls := hown
  have hl : lv_has ls 5 [(0, .ref (v 0)), (1, .int (z)), (2, .int (z1)), (3, .ref (ob))] := hl
  have w1 := hts (Cond.classLink RL 19 "java/lang/IllegalArgumentException") (List.mem_of_getElem? (i := 1) rfl)
  refine lv_aload_n hx hb dL_isJustified_0 rfl (lv_at hl 3 rfl) ?_
  refine lv_iconst (v := 0) hx hb dL_isJustified_1 (by decide) ?_
  refine lv_aload_n hx hb dL_isJustified_2 rfl (lv_at hl 0 rfl) ?_
  refine lv_iload_n hx hb dL_isJustified_3 rfl (lv_at hl 1 rfl) ?_
  refine lv_iload_n hx hb dL_isJustified_4 rfl (lv_at hl 2 rfl) ?_
  refine wxVi (As := [.int (z), .int (z1)]) (rest := [.int 0, .ref (ob)]) ⟨hx, hb, hml, hown, hts⟩ (c_X9_isJustified l hl9 D T aK aV v B O g ln un nx pl f0 f1 f2 z z1 N K C nt hOI _) (cwV 2 hts gL_isJustified_X9_isJustified rfl rfl rfl (by decide +kernel) ⟨Nat.le_of_ble_eq_true rfl, Nat.le_of_ble_eq_true rfl⟩) (Foc.cons (OUT T ob fo) _ _) (Foc.cons (OUT T ob fo) _ _) hC hK hP hD hS hA 0 rfl rfl rfl hl.1 rfl (Nat.le_of_ble_eq_true rfl) ⟨Nat.le_of_ble_eq_true rfl, Nat.le_of_ble_eq_true rfl⟩ dL_isJustified_5 (fun E ce q9 H locs hE hP hD hS hce hcv hcl => ?_) (fun H locs hE hP hD hS => ?_)
  ·
    obtain rfl : E = "java/lang/IllegalArgumentException" := (hcd E hE).elim id id
    refine vx_catch (E := "java/lang/IllegalArgumentException") (name := "java/lang/IllegalArgumentException") hown [] ⟨0, 17, 20, 19⟩ [] (by rw [htab]; rfl) (fun z hz => absurd hz List.not_mem_nil) (by decide) (by decide) w1 (cast_self hC.2.2.2.2 "java/lang/IllegalArgumentException" (by decide)) hce hcv hcl ?_
    refine lv_astore (lv' := [(4, .ref (q9)), (0, .ref (v 0)), (1, .int (z)), (2, .int (z1)), (3, .ref (ob))]) hx hb dL_isJustified_20 hl (by decide) rfl (fun ls hl => ?_)
    refine lv_iconst (v := 1) hx hb dL_isJustified_22 (by decide) ?_
    refine endI (r := kC "java/lang/IllegalArgumentException" (orE (chkB (rg z 0 3) "java/lang/IllegalArgumentException") (chkB (rg z1 0 2000) "java/lang/IllegalArgumentException"))) (by rw [hE]; simp [kC]) ?_
    exact hret _ _ _ _ dL_isJustified_23 (by rw [hE]; exact hP) (by rw [hE]; exact hD) hS
  ·
    refine lv_if_eq (tgt := 15) hx hb dL_isJustified_8 (by decide) (fun cb => ?_) (fun cb => ?_)
    ·
      have cb : ¬ ((justB z.toNatClampNeg ((O 0) 0 1) ((O 0) 0 2) ((O 0) 0 3) z1.toNatClampNeg ((O 0) 1 (z1.toNatClampNeg % C)))) = true := by rw [bI_0.mp cb]; decide
      refine lv_lconst (v := 0) hx hb dL_isJustified_15 rfl ?_
      refine va_last hx hb hK hP hD hS 0 3 rfl rfl (by unfold vp_in; decide) dL_isJustified_16 (fun H locs hP hD hS => ?_)
      rw [show (0 : Int32).toNatClampNeg = 0 from by decide] at hP hD
      have hP : va_P D vwCl (OUT T ob (vp_updL fo 0 0) :: WIN T v B O g ln un nx pl f0 f1 f2) H := hP
      have hD : va_D A (OUT T ob (vp_updL fo 0 0) :: WIN T v B O g ln un nx pl f0 f1 f2) := hD
      refine lv_goto (tgt := 24) hx hb dL_isJustified_17 (by decide) ?_
      refine lv_iconst (v := 0) hx hb dL_isJustified_24 (by decide) ?_
      refine endI (r := kC "java/lang/IllegalArgumentException" (orE (chkB (rg z 0 3) "java/lang/IllegalArgumentException") (chkB (rg z1 0 2000) "java/lang/IllegalArgumentException"))) (by rw [hE]; rfl) ?_
      exact hret _ _ _ _ dL_isJustified_25 (by rw [hE, if_neg cb]; exact hP) (by rw [hE, if_neg cb]; exact hD) hS
    ·
      have cb : ((justB z.toNatClampNeg ((O 0) 0 1) ((O 0) 0 2) ((O 0) 0 3) z1.toNatClampNeg ((O 0) 1 (z1.toNatClampNeg % C)))) = true := bI_n0.mp cb
      refine lv_lconst (v := 1) hx hb dL_isJustified_11 rfl ?_
      refine lv_goto (tgt := 16) hx hb dL_isJustified_12 (by decide) ?_
      refine va_last hx hb hK hP hD hS 0 3 rfl rfl (by unfold vp_in; decide) dL_isJustified_16 (fun H locs hP hD hS => ?_)
      rw [show (0 : Int32).toNatClampNeg = 0 from by decide] at hP hD
      have hP : va_P D vwCl (OUT T ob (vp_updL fo 0 1) :: WIN T v B O g ln un nx pl f0 f1 f2) H := hP
      have hD : va_D A (OUT T ob (vp_updL fo 0 1) :: WIN T v B O g ln un nx pl f0 f1 f2) := hD
      refine lv_goto (tgt := 24) hx hb dL_isJustified_17 (by decide) ?_
      refine lv_iconst (v := 0) hx hb dL_isJustified_24 (by decide) ?_
      refine endI (r := kC "java/lang/IllegalArgumentException" (orE (chkB (rg z 0 3) "java/lang/IllegalArgumentException") (chkB (rg z1 0 2000) "java/lang/IllegalArgumentException"))) (by rw [hE]; rfl) ?_
      exact hret _ _ _ _ dL_isJustified_25 (by rw [hE, if_pos cb]; exact hP) (by rw [hE, if_pos cb]; exact hD) hS

set_option maxHeartbeats 4000000 in
set_option maxRecDepth 100000 in
theorem c_L_isWaiting (l : Launch) (hl9 : l.stackTraces = false) (D : va_G) (T : Nat → ClassId) (aK aV : Nat → Nat) (v : Nat → Nat) (B : Nat → Nat → Nat) (O : Nat → Nat → Nat → Int32) (g : CSt) (ln un nx pl : Nat) (f0 f1 f2 : Nat → Int32) (ob : Nat) (fo : Nat → Int64) (z : Int32) (N : Nat) (K : Nat) (C : Nat) (nt : Nat) (hOI : OI (O 0) N K C nt) (sz : Nat) : Met l yL_isWaiting wsL_isWaiting ({ frames := 8, cells := 1, slots := 6, locals := 132 } : Room) (va_Pc [.ref (v 0), .int (z), .ref (ob)] (fun U => PSc D T aK aV (OUT T ob fo :: WIN T v B O g ln un nx pl f0 f1 f2) sz U ∧ NCX U)) (va_Qi (fun r9 (_ : Unit) => r9 = kC "java/lang/IndexOutOfBoundsException" (chkB (inN z N) "java/lang/IndexOutOfBoundsException")) (fun _ t => QS D T (va_A (OUT T ob fo :: WIN T v B O g ln un nx pl f0 f1 f2) sz) (wC (OUT T ob (vp_updL fo 0 (if ((decide ((O 0) 8 z.toNatClampNeg = 0))) then 1 else 0)) :: WIN T v B O g ln un nx pl f0 f1 f2) (OUT T ob fo :: WIN T v B O g ln un nx pl f0 f1 f2) (chkB (inN z N) "java/lang/IndexOutOfBoundsException")) t) (va_A (OUT T ob fo :: WIN T v B O g ln un nx pl f0 f1 f2) sz)) 1 6 (va_A (OUT T ob fo :: WIN T v B O g ln un nx pl f0 f1 f2) sz) := by
  have hcd : oneOf "java/lang/IndexOutOfBoundsException" "java/lang/IndexOutOfBoundsException" (chkB (inN z N) "java/lang/IndexOutOfBoundsException") := oneOf_chk (Or.inl rfl)
  refine metLi (cc := cL_isWaiting) (maxL := 4) (by decide) rfl (Nat.le_of_ble_eq_true rfl) ?_
  intro p e s m args below meth c Q ls A hx hb hml hown hts htab hNC hC hP hK hD hA hS hl hret
  have hown : s.vm.findClass RL = some m.cls := hown
  have hl : lv_has ls 4 [(0, .ref (v 0)), (1, .int (z)), (2, .ref (ob))] := hl
  have w1 := hts (Cond.classLink RL 55 "java/lang/IndexOutOfBoundsException") (List.mem_of_getElem? (i := 1) rfl)
  refine lv_aload_n hx hb dL_isWaiting_0 rfl (lv_at hl 2 rfl) ?_
  refine lv_iconst (v := 0) hx hb dL_isWaiting_1 (by decide) ?_
  refine lv_aload_n hx hb dL_isWaiting_2 rfl (lv_at hl 0 rfl) ?_
  refine lv_iload_n hx hb dL_isWaiting_3 rfl (lv_at hl 1 rfl) ?_
  refine wxVi (As := [.int (z)]) (rest := [.int 0, .ref (ob)]) ⟨hx, hb, hml, hown, hts⟩ (c_X9_isWaiting l hl9 D T aK aV v B O g ln un nx pl f0 f1 f2 z N K C nt hOI _) (cwV 1 hts gL_isWaiting_X9_isWaiting rfl rfl rfl (by decide +kernel) ⟨Nat.le_of_ble_eq_true rfl, Nat.le_of_ble_eq_true rfl⟩) (Foc.cons (OUT T ob fo) _ _) (Foc.cons (OUT T ob fo) _ _) hC hK hP hD hS hA 0 rfl rfl rfl hl.1 rfl (Nat.le_of_ble_eq_true rfl) ⟨Nat.le_of_ble_eq_true rfl, Nat.le_of_ble_eq_true rfl⟩ dL_isWaiting_4 (fun E ce q9 H locs hE hP hD hS hce hcv hcl => ?_) (fun H locs hE hP hD hS => ?_)
  ·
    obtain rfl : E = "java/lang/IndexOutOfBoundsException" := (hcd E hE).elim id id
    refine vx_catch (E := "java/lang/IndexOutOfBoundsException") (name := "java/lang/IndexOutOfBoundsException") hown [] ⟨0, 16, 19, 55⟩ [] (by rw [htab]; rfl) (fun z hz => absurd hz List.not_mem_nil) (by decide) (by decide) w1 (cast_self hC.2.2.2.2 "java/lang/IndexOutOfBoundsException" (by decide)) hce hcv hcl ?_
    refine lv_astore_n (lv' := [(3, .ref (q9)), (0, .ref (v 0)), (1, .int (z)), (2, .ref (ob))]) hx hb dL_isWaiting_19 rfl hl (by decide) rfl (fun ls hl => ?_)
    refine lv_iconst (v := 1) hx hb dL_isWaiting_20 (by decide) ?_
    refine endI (r := kC "java/lang/IndexOutOfBoundsException" (chkB (inN z N) "java/lang/IndexOutOfBoundsException")) (by rw [hE]; simp [kC]) ?_
    exact hret _ _ _ _ dL_isWaiting_21 (by rw [hE]; exact hP) (by rw [hE]; exact hD) hS
  ·
    refine lv_if_eq (tgt := 14) hx hb dL_isWaiting_7 (by decide) (fun cb => ?_) (fun cb => ?_)
    ·
      have cb : ¬ ((decide ((O 0) 8 z.toNatClampNeg = 0))) = true := by rw [bI_0.mp cb]; decide
      refine lv_lconst (v := 0) hx hb dL_isWaiting_14 rfl ?_
      refine va_last hx hb hK hP hD hS 0 3 rfl rfl (by unfold vp_in; decide) dL_isWaiting_15 (fun H locs hP hD hS => ?_)
      rw [show (0 : Int32).toNatClampNeg = 0 from by decide] at hP hD
      have hP : va_P D vwCl (OUT T ob (vp_updL fo 0 0) :: WIN T v B O g ln un nx pl f0 f1 f2) H := hP
      have hD : va_D A (OUT T ob (vp_updL fo 0 0) :: WIN T v B O g ln un nx pl f0 f1 f2) := hD
      refine lv_goto (tgt := 22) hx hb dL_isWaiting_16 (by decide) ?_
      refine lv_iconst (v := 0) hx hb dL_isWaiting_22 (by decide) ?_
      refine endI (r := kC "java/lang/IndexOutOfBoundsException" (chkB (inN z N) "java/lang/IndexOutOfBoundsException")) (by rw [hE]; rfl) ?_
      exact hret _ _ _ _ dL_isWaiting_23 (by rw [hE, if_neg cb]; exact hP) (by rw [hE, if_neg cb]; exact hD) hS
    ·
      have cb : ((decide ((O 0) 8 z.toNatClampNeg = 0))) = true := bI_n0.mp cb
      refine lv_lconst (v := 1) hx hb dL_isWaiting_10 rfl ?_
      refine lv_goto (tgt := 15) hx hb dL_isWaiting_11 (by decide) ?_
      refine va_last hx hb hK hP hD hS 0 3 rfl rfl (by unfold vp_in; decide) dL_isWaiting_15 (fun H locs hP hD hS => ?_)
      rw [show (0 : Int32).toNatClampNeg = 0 from by decide] at hP hD
      have hP : va_P D vwCl (OUT T ob (vp_updL fo 0 1) :: WIN T v B O g ln un nx pl f0 f1 f2) H := hP
      have hD : va_D A (OUT T ob (vp_updL fo 0 1) :: WIN T v B O g ln un nx pl f0 f1 f2) := hD
      refine lv_goto (tgt := 22) hx hb dL_isWaiting_16 (by decide) ?_
      refine lv_iconst (v := 0) hx hb dL_isWaiting_22 (by decide) ?_
      refine endI (r := kC "java/lang/IndexOutOfBoundsException" (chkB (inN z N) "java/lang/IndexOutOfBoundsException")) (by rw [hE]; rfl) ?_
      exact hret _ _ _ _ dL_isWaiting_23 (by rw [hE, if_pos cb]; exact hP) (by rw [hE, if_pos cb]; exact hD) hS

set_option maxHeartbeats 4000000 in
set_option maxRecDepth 100000 in
theorem c_L_justifiedNights (l : Launch) (hl9 : l.stackTraces = false) (D : va_G) (T : Nat → ClassId) (aK aV : Nat → Nat) (v : Nat → Nat) (B : Nat → Nat → Nat) (O : Nat → Nat → Nat → Int32) (g : CSt) (ln un nx pl : Nat) (f0 f1 f2 : Nat → Int32) (ob : Nat) (fo : Nat → Int64) (z : Int32) (N : Nat) (K : Nat) (C : Nat) (nt : Nat) (hOI : OI (O 0) N K C nt) (sz : Nat) : Met l yL_justifiedNights wsL_justifiedNights ({ frames := 9, cells := 1, slots := 6, locals := 153 } : Room) (va_Pc [.ref (v 0), .int (z), .ref (ob)] (fun U => PSc D T aK aV (OUT T ob fo :: WIN T v B O g ln un nx pl f0 f1 f2) sz U ∧ NCX U)) (va_Qi (fun r9 (_ : Unit) => r9 = kC "java/lang/IllegalArgumentException" (chkB (rg z 0 3) "java/lang/IllegalArgumentException")) (fun _ t => QS D T (va_A (OUT T ob fo :: WIN T v B O g ln un nx pl f0 f1 f2) sz) (wC (OUT T ob (vp_updL fo 0 (jcC (O 0) C nt z.toNatClampNeg).toInt64) :: WIN T v B O g ln un nx pl f0 f1 f2) (OUT T ob fo :: WIN T v B O g ln un nx pl f0 f1 f2) (chkB (rg z 0 3) "java/lang/IllegalArgumentException")) t) (va_A (OUT T ob fo :: WIN T v B O g ln un nx pl f0 f1 f2) sz)) 1 6 (va_A (OUT T ob fo :: WIN T v B O g ln un nx pl f0 f1 f2) sz) := by
  have hcd : oneOf "java/lang/IllegalArgumentException" "java/lang/IllegalArgumentException" (chkB (rg z 0 3) "java/lang/IllegalArgumentException") := oneOf_chk (Or.inl rfl)
  refine metLi (cc := cL_justifiedNights) (maxL := 4) (by decide) rfl (Nat.le_of_ble_eq_true rfl) ?_
  intro p e s m args below meth c Q ls A hx hb hml hown hts htab hNC hC hP hK hD hA hS hl hret
  have hown : s.vm.findClass RL = some m.cls := hown
  have hl : lv_has ls 4 [(0, .ref (v 0)), (1, .int (z)), (2, .ref (ob))] := hl
  have w1 := hts (Cond.classLink RL 19 "java/lang/IllegalArgumentException") (List.mem_of_getElem? (i := 1) rfl)
  refine lv_aload_n hx hb dL_justifiedNights_0 rfl (lv_at hl 2 rfl) ?_
  refine lv_iconst (v := 0) hx hb dL_justifiedNights_1 (by decide) ?_
  refine lv_aload_n hx hb dL_justifiedNights_2 rfl (lv_at hl 0 rfl) ?_
  refine lv_iload_n hx hb dL_justifiedNights_3 rfl (lv_at hl 1 rfl) ?_
  refine wxVi (As := [.int (z)]) (rest := [.int 0, .ref (ob)]) ⟨hx, hb, hml, hown, hts⟩ (c_X9_justifiedNights l hl9 D T aK aV v B O g ln un nx pl f0 f1 f2 z N K C nt hOI _) (cwV 1 hts gL_justifiedNights_X9_justifiedNights rfl rfl rfl (by decide +kernel) ⟨Nat.le_of_ble_eq_true rfl, Nat.le_of_ble_eq_true rfl⟩) (Foc.cons (OUT T ob fo) _ _) (Foc.cons (OUT T ob fo) _ _) hC hK hP hD hS hA 0 rfl rfl rfl hl.1 rfl (Nat.le_of_ble_eq_true rfl) ⟨Nat.le_of_ble_eq_true rfl, Nat.le_of_ble_eq_true rfl⟩ dL_justifiedNights_4 (fun E ce q9 H locs hE hP hD hS hce hcv hcl => ?_) (fun H locs hE hP hD hS => ?_)
  ·
    obtain rfl : E = "java/lang/IllegalArgumentException" := (hcd E hE).elim id id
    refine vx_catch (E := "java/lang/IllegalArgumentException") (name := "java/lang/IllegalArgumentException") hown [] ⟨0, 9, 12, 19⟩ [] (by rw [htab]; rfl) (fun z hz => absurd hz List.not_mem_nil) (by decide) (by decide) w1 (cast_self hC.2.2.2.2 "java/lang/IllegalArgumentException" (by decide)) hce hcv hcl ?_
    refine lv_astore_n (lv' := [(3, .ref (q9)), (0, .ref (v 0)), (1, .int (z)), (2, .ref (ob))]) hx hb dL_justifiedNights_12 rfl hl (by decide) rfl (fun ls hl => ?_)
    refine lv_iconst (v := 1) hx hb dL_justifiedNights_13 (by decide) ?_
    refine endI (r := kC "java/lang/IllegalArgumentException" (chkB (rg z 0 3) "java/lang/IllegalArgumentException")) (by rw [hE]; simp [kC]) ?_
    exact hret _ _ _ _ dL_justifiedNights_14 (by rw [hE]; exact hP) (by rw [hE]; exact hD) hS
  ·
    refine lv_i2l (v := (jcC (O 0) C nt z.toNatClampNeg).toInt64) hx hb dL_justifiedNights_7 rfl ?_
    refine va_last hx hb hK hP hD hS 0 3 rfl rfl (by unfold vp_in; decide) dL_justifiedNights_8 (fun H locs hP hD hS => ?_)
    rw [show (0 : Int32).toNatClampNeg = 0 from by decide] at hP hD
    have hP : va_P D vwCl (OUT T ob (vp_updL fo 0 (jcC (O 0) C nt z.toNatClampNeg).toInt64) :: WIN T v B O g ln un nx pl f0 f1 f2) H := hP
    have hD : va_D A (OUT T ob (vp_updL fo 0 (jcC (O 0) C nt z.toNatClampNeg).toInt64) :: WIN T v B O g ln un nx pl f0 f1 f2) := hD
    refine lv_goto (tgt := 15) hx hb dL_justifiedNights_9 (by decide) ?_
    refine lv_iconst (v := 0) hx hb dL_justifiedNights_15 (by decide) ?_
    refine endI (r := kC "java/lang/IllegalArgumentException" (chkB (rg z 0 3) "java/lang/IllegalArgumentException")) (by rw [hE]; rfl) ?_
    exact hret _ _ _ _ dL_justifiedNights_16 (by rw [hE]; exact hP) (by rw [hE]; exact hD) hS

set_option maxHeartbeats 4000000 in
set_option maxRecDepth 100000 in
theorem c_L_lightOf (l : Launch) (hl9 : l.stackTraces = false) (D : va_G) (T : Nat → ClassId) (aK aV : Nat → Nat) (v : Nat → Nat) (B : Nat → Nat → Nat) (O : Nat → Nat → Nat → Int32) (g : CSt) (ln un nx pl : Nat) (f0 f1 f2 : Nat → Int32) (ob : Nat) (fo : Nat → Int64) (z : Int32) (N : Nat) (K : Nat) (C : Nat) (nt : Nat) (hOI : OI (O 0) N K C nt) (sz : Nat) : Met l yL_lightOf wsL_lightOf ({ frames := 9, cells := 1, slots := 6, locals := 153 } : Room) (va_Pc [.ref (v 0), .int (z), .ref (ob)] (fun U => PSc D T aK aV (OUT T ob fo :: WIN T v B O g ln un nx pl f0 f1 f2) sz U ∧ NCX U)) (va_Qi (fun r9 (_ : Unit) => r9 = kC "java/lang/IllegalArgumentException" (chkB (rg z 0 2000) "java/lang/IllegalArgumentException")) (fun _ t => QS D T (va_A (OUT T ob fo :: WIN T v B O g ln un nx pl f0 f1 f2) sz) (wC (OUT T ob (vp_updL fo 0 (nI (lightN z.toNatClampNeg)).toInt64) :: WIN T v B O g ln un nx pl f0 f1 f2) (OUT T ob fo :: WIN T v B O g ln un nx pl f0 f1 f2) (chkB (rg z 0 2000) "java/lang/IllegalArgumentException")) t) (va_A (OUT T ob fo :: WIN T v B O g ln un nx pl f0 f1 f2) sz)) 1 6 (va_A (OUT T ob fo :: WIN T v B O g ln un nx pl f0 f1 f2) sz) := by
  have hcd : oneOf "java/lang/IllegalArgumentException" "java/lang/IllegalArgumentException" (chkB (rg z 0 2000) "java/lang/IllegalArgumentException") := oneOf_chk (Or.inl rfl)
  refine metLi (cc := cL_lightOf) (maxL := 4) (by decide) rfl (Nat.le_of_ble_eq_true rfl) ?_
  intro p e s m args below meth c Q ls A hx hb hml hown hts htab hNC hC hP hK hD hA hS hl hret
  have hown : s.vm.findClass RL = some m.cls := hown
  have hl : lv_has ls 4 [(0, .ref (v 0)), (1, .int (z)), (2, .ref (ob))] := hl
  have w1 := hts (Cond.classLink RL 19 "java/lang/IllegalArgumentException") (List.mem_of_getElem? (i := 1) rfl)
  refine lv_aload_n hx hb dL_lightOf_0 rfl (lv_at hl 2 rfl) ?_
  refine lv_iconst (v := 0) hx hb dL_lightOf_1 (by decide) ?_
  refine lv_aload_n hx hb dL_lightOf_2 rfl (lv_at hl 0 rfl) ?_
  refine lv_iload_n hx hb dL_lightOf_3 rfl (lv_at hl 1 rfl) ?_
  refine wxVi (As := [.int (z)]) (rest := [.int 0, .ref (ob)]) ⟨hx, hb, hml, hown, hts⟩ (c_X9_lightOf l hl9 D T aK aV v B O g ln un nx pl f0 f1 f2 z N K C nt hOI _) (cwV 1 hts gL_lightOf_X9_lightOf rfl rfl rfl (by decide +kernel) ⟨Nat.le_of_ble_eq_true rfl, Nat.le_of_ble_eq_true rfl⟩) (Foc.cons (OUT T ob fo) _ _) (Foc.cons (OUT T ob fo) _ _) hC hK hP hD hS hA 0 rfl rfl rfl hl.1 rfl (Nat.le_of_ble_eq_true rfl) ⟨Nat.le_of_ble_eq_true rfl, Nat.le_of_ble_eq_true rfl⟩ dL_lightOf_4 (fun E ce q9 H locs hE hP hD hS hce hcv hcl => ?_) (fun H locs hE hP hD hS => ?_)
  ·
    obtain rfl : E = "java/lang/IllegalArgumentException" := (hcd E hE).elim id id
    refine vx_catch (E := "java/lang/IllegalArgumentException") (name := "java/lang/IllegalArgumentException") hown [] ⟨0, 9, 12, 19⟩ [] (by rw [htab]; rfl) (fun z hz => absurd hz List.not_mem_nil) (by decide) (by decide) w1 (cast_self hC.2.2.2.2 "java/lang/IllegalArgumentException" (by decide)) hce hcv hcl ?_
    refine lv_astore_n (lv' := [(3, .ref (q9)), (0, .ref (v 0)), (1, .int (z)), (2, .ref (ob))]) hx hb dL_lightOf_12 rfl hl (by decide) rfl (fun ls hl => ?_)
    refine lv_iconst (v := 1) hx hb dL_lightOf_13 (by decide) ?_
    refine endI (r := kC "java/lang/IllegalArgumentException" (chkB (rg z 0 2000) "java/lang/IllegalArgumentException")) (by rw [hE]; simp [kC]) ?_
    exact hret _ _ _ _ dL_lightOf_14 (by rw [hE]; exact hP) (by rw [hE]; exact hD) hS
  ·
    refine lv_i2l (v := (nI (lightN z.toNatClampNeg)).toInt64) hx hb dL_lightOf_7 rfl ?_
    refine va_last hx hb hK hP hD hS 0 3 rfl rfl (by unfold vp_in; decide) dL_lightOf_8 (fun H locs hP hD hS => ?_)
    rw [show (0 : Int32).toNatClampNeg = 0 from by decide] at hP hD
    have hP : va_P D vwCl (OUT T ob (vp_updL fo 0 (nI (lightN z.toNatClampNeg)).toInt64) :: WIN T v B O g ln un nx pl f0 f1 f2) H := hP
    have hD : va_D A (OUT T ob (vp_updL fo 0 (nI (lightN z.toNatClampNeg)).toInt64) :: WIN T v B O g ln un nx pl f0 f1 f2) := hD
    refine lv_goto (tgt := 15) hx hb dL_lightOf_9 (by decide) ?_
    refine lv_iconst (v := 0) hx hb dL_lightOf_15 (by decide) ?_
    refine endI (r := kC "java/lang/IllegalArgumentException" (chkB (rg z 0 2000) "java/lang/IllegalArgumentException")) (by rw [hE]; rfl) ?_
    exact hret _ _ _ _ dL_lightOf_16 (by rw [hE]; exact hP) (by rw [hE]; exact hD) hS

set_option maxHeartbeats 4000000 in
set_option maxRecDepth 100000 in
theorem c_L_load (l : Launch) (hl9 : l.stackTraces = false) (D : va_G) (T : Nat → ClassId) (aK aV : Nat → Nat) (v : Nat → Nat) (B : Nat → Nat → Nat) (O : Nat → Nat → Nat → Int32) (g : CSt) (ln un nx pl : Nat) (f0 f1 f2 : Nat → Int32) (ob : Nat) (fo : Nat → Int64)  (hL2 : ln ≤ 600) (hby : ∀ i, i < ln → ¬ f0 i = -1) (sz : Nat) : Met l yL_load wsL_load ({ frames := 10, cells := 1, slots := 6, locals := 215 } : Room) (va_Pc [.ref (v 0), .ref (ob)] (fun U => PSc D T aK aV (OUT T ob fo :: WIN T v B O g ln un nx pl f0 f1 f2) sz U ∧ NCX U)) (va_Qi (fun r9 (_ : Unit) => r9 = kC "java/lang/IllegalArgumentException" (chkB (!(rd5 f0 ln (O 2, g)).2.2.2.1) "java/lang/IllegalArgumentException")) (fun _ t => QS D T (va_A (OUT T ob fo :: WIN T v B O g ln un nx pl f0 f1 f2) sz) (wC (OUT T ob (vp_updL fo 0 ((rd4 f0 ln (O 2, g)).2.1 0 7).toInt64) :: WIN T v B (va_up (va_up O 2 ((rd4 f0 ln (O 2, g)).2.1)) 0 ((rd4 f0 ln (O 2, g)).2.1)) (rd5 f0 ln (O 2, g)) 0 0 nx pl f0 f1 (iter (fun k f => va_up f k 0) 2 0 f2)) (OUT T ob fo :: WIN T v B (va_up O 2 ((rd4 f0 ln (O 2, g)).2.1)) (rd5 f0 ln (O 2, g)) 0 un nx pl f0 f1 f2) (chkB (!(rd5 f0 ln (O 2, g)).2.2.2.1) "java/lang/IllegalArgumentException")) t) (va_A (OUT T ob fo :: WIN T v B O g ln un nx pl f0 f1 f2) sz)) 1 6 (va_A (OUT T ob fo :: WIN T v B O g ln un nx pl f0 f1 f2) sz) := by
  have hcd : oneOf "java/lang/IllegalArgumentException" "java/lang/IllegalArgumentException" (chkB (!(rd5 f0 ln (O 2, g)).2.2.2.1) "java/lang/IllegalArgumentException") := oneOf_chk (Or.inl rfl)
  refine metLi (cc := cL_load) (maxL := 3) (by decide) rfl (Nat.le_of_ble_eq_true rfl) ?_
  intro p e s m args below meth c Q ls A hx hb hml hown hts htab hNC hC hP hK hD hA hS hl hret
  have hown : s.vm.findClass RL = some m.cls := hown
  have hl : lv_has ls 3 [(0, .ref (v 0)), (1, .ref (ob))] := hl
  have w1 := hts (Cond.classLink RL 19 "java/lang/IllegalArgumentException") (List.mem_of_getElem? (i := 1) rfl)
  refine lv_aload_n hx hb dL_load_0 rfl (lv_at hl 1 rfl) ?_
  refine lv_iconst (v := 0) hx hb dL_load_1 (by decide) ?_
  refine lv_aload_n hx hb dL_load_2 rfl (lv_at hl 0 rfl) ?_
  refine wxVi (As := []) (rest := [.int 0, .ref (ob)]) ⟨hx, hb, hml, hown, hts⟩ (c_X9_load l hl9 D T aK aV v B O g ln un nx pl f0 f1 f2 hL2 hby _) (cwV 0 hts gL_load_X9_load rfl rfl rfl (by decide +kernel) ⟨Nat.le_of_ble_eq_true rfl, Nat.le_of_ble_eq_true rfl⟩) (Foc.cons (OUT T ob fo) _ _) (Foc.cons (OUT T ob fo) _ _) hC hK hP hD hS hA 0 rfl rfl rfl hl.1 rfl (Nat.le_of_ble_eq_true rfl) ⟨Nat.le_of_ble_eq_true rfl, Nat.le_of_ble_eq_true rfl⟩ dL_load_3 (fun E ce q9 H locs hE hP hD hS hce hcv hcl => ?_) (fun H locs hE hP hD hS => ?_)
  ·
    obtain rfl : E = "java/lang/IllegalArgumentException" := (hcd E hE).elim id id
    refine vx_catch (E := "java/lang/IllegalArgumentException") (name := "java/lang/IllegalArgumentException") hown [] ⟨0, 8, 11, 19⟩ [] (by rw [htab]; rfl) (fun z hz => absurd hz List.not_mem_nil) (by decide) (by decide) w1 (cast_self hC.2.2.2.2 "java/lang/IllegalArgumentException" (by decide)) hce hcv hcl ?_
    refine lv_astore_n (lv' := [(2, .ref (q9)), (0, .ref (v 0)), (1, .ref (ob))]) hx hb dL_load_11 rfl hl (by decide) rfl (fun ls hl => ?_)
    refine lv_iconst (v := 1) hx hb dL_load_12 (by decide) ?_
    refine endI (r := kC "java/lang/IllegalArgumentException" (chkB (!(rd5 f0 ln (O 2, g)).2.2.2.1) "java/lang/IllegalArgumentException")) (by rw [hE]; simp [kC]) ?_
    exact hret _ _ _ _ dL_load_13 (by rw [hE]; exact hP) (by rw [hE]; exact hD) hS
  ·
    refine lv_i2l (v := ((rd4 f0 ln (O 2, g)).2.1 0 7).toInt64) hx hb dL_load_6 rfl ?_
    refine va_last hx hb hK hP hD hS 0 3 rfl rfl (by unfold vp_in; decide) dL_load_7 (fun H locs hP hD hS => ?_)
    rw [show (0 : Int32).toNatClampNeg = 0 from by decide] at hP hD
    have hP : va_P D vwCl (OUT T ob (vp_updL fo 0 ((rd4 f0 ln (O 2, g)).2.1 0 7).toInt64) :: WIN T v B (va_up (va_up O 2 ((rd4 f0 ln (O 2, g)).2.1)) 0 ((rd4 f0 ln (O 2, g)).2.1)) (rd5 f0 ln (O 2, g)) 0 0 nx pl f0 f1 (iter (fun k f => va_up f k 0) 2 0 f2)) H := hP
    have hD : va_D A (OUT T ob (vp_updL fo 0 ((rd4 f0 ln (O 2, g)).2.1 0 7).toInt64) :: WIN T v B (va_up (va_up O 2 ((rd4 f0 ln (O 2, g)).2.1)) 0 ((rd4 f0 ln (O 2, g)).2.1)) (rd5 f0 ln (O 2, g)) 0 0 nx pl f0 f1 (iter (fun k f => va_up f k 0) 2 0 f2)) := hD
    refine lv_goto (tgt := 14) hx hb dL_load_8 (by decide) ?_
    refine lv_iconst (v := 0) hx hb dL_load_14 (by decide) ?_
    refine endI (r := kC "java/lang/IllegalArgumentException" (chkB (!(rd5 f0 ln (O 2, g)).2.2.2.1) "java/lang/IllegalArgumentException")) (by rw [hE]; rfl) ?_
    exact hret _ _ _ _ dL_load_15 (by rw [hE]; exact hP) (by rw [hE]; exact hD) hS

set_option maxHeartbeats 4000000 in
set_option maxRecDepth 100000 in
theorem c_L_nextJustified (l : Launch) (hl9 : l.stackTraces = false) (D : va_G) (T : Nat → ClassId) (aK aV : Nat → Nat) (v : Nat → Nat) (B : Nat → Nat → Nat) (O : Nat → Nat → Nat → Int32) (g : CSt) (ln un nx pl : Nat) (f0 f1 f2 : Nat → Int32) (ob : Nat) (fo : Nat → Int64) (z : Int32) (N : Nat) (K : Nat) (C : Nat) (nt : Nat) (hOI : OI (O 0) N K C nt) (sz : Nat) : Met l yL_nextJustified wsL_nextJustified ({ frames := 9, cells := 2, slots := 12, locals := 154 } : Room) (va_Pc [.ref (v 0), .int (z), .ref (ob)] (fun U => PSc D T aK aV (OUT T ob fo :: WIN T v B O g ln un nx pl f0 f1 f2) sz U ∧ NCX U)) (va_Qi (fun r9 (_ : Unit) => r9 = kC "java/lang/IllegalArgumentException" (orE (chkB (rg z 0 3) "java/lang/IllegalArgumentException") (chkB ((nextC (O 0) C nt z.toNatClampNeg).isSome) "java/util/NoSuchElementException"))) (fun _ t => QS D T (va_A (OUT T ob fo :: WIN T v B O g ln un nx pl f0 f1 f2) sz) (wC (OUT T ob (vp_updL fo 0 ((nextC (O 0) C nt z.toNatClampNeg).elim 0 nI).toInt64) :: WIN T v B O g ln un nx pl f0 f1 f2) (OUT T ob fo :: WIN T v B O g ln un nx pl f0 f1 f2) (orE (chkB (rg z 0 3) "java/lang/IllegalArgumentException") (chkB ((nextC (O 0) C nt z.toNatClampNeg).isSome) "java/util/NoSuchElementException"))) t) (va_A (OUT T ob fo :: WIN T v B O g ln un nx pl f0 f1 f2) sz)) 2 12 (va_A (OUT T ob fo :: WIN T v B O g ln un nx pl f0 f1 f2) sz) := by
  have hcd : oneOf "java/lang/IllegalArgumentException" "java/util/NoSuchElementException" (orE (chkB (rg z 0 3) "java/lang/IllegalArgumentException") (chkB ((nextC (O 0) C nt z.toNatClampNeg).isSome) "java/util/NoSuchElementException")) := oneOf_or (oneOf_chk (Or.inl rfl)) (oneOf_chk (Or.inr rfl))
  refine metLi (cc := cL_nextJustified) (maxL := 4) (by decide) rfl (Nat.le_of_ble_eq_true rfl) ?_
  intro p e s m args below meth c Q ls A hx hb hml hown hts htab hNC hC hP hK hD hA hS hl hret
  have hown : s.vm.findClass RL = some m.cls := hown
  have hl : lv_has ls 4 [(0, .ref (v 0)), (1, .int (z)), (2, .ref (ob))] := hl
  have w1 := hts (Cond.classLink RL 19 "java/lang/IllegalArgumentException") (List.mem_of_getElem? (i := 1) rfl)
  have w2 := hts (Cond.classLink RL 28 "java/util/NoSuchElementException") (List.mem_of_getElem? (i := 2) rfl)
  refine lv_aload_n hx hb dL_nextJustified_0 rfl (lv_at hl 2 rfl) ?_
  refine lv_iconst (v := 0) hx hb dL_nextJustified_1 (by decide) ?_
  refine lv_aload_n hx hb dL_nextJustified_2 rfl (lv_at hl 0 rfl) ?_
  refine lv_iload_n hx hb dL_nextJustified_3 rfl (lv_at hl 1 rfl) ?_
  refine wxVi (As := [.int (z)]) (rest := [.int 0, .ref (ob)]) ⟨hx, hb, hml, hown, hts⟩ (c_X9_nextJustified l hl9 D T aK aV v B O g ln un nx pl f0 f1 f2 z N K C nt hOI _) (cwV 1 hts gL_nextJustified_X9_nextJustified rfl rfl rfl (by decide +kernel) ⟨Nat.le_of_ble_eq_true rfl, Nat.le_of_ble_eq_true rfl⟩) (Foc.cons (OUT T ob fo) _ _) (Foc.cons (OUT T ob fo) _ _) hC hK hP hD hS hA 0 rfl rfl rfl hl.1 rfl (Nat.le_of_ble_eq_true rfl) ⟨Nat.le_of_ble_eq_true rfl, Nat.le_of_ble_eq_true rfl⟩ dL_nextJustified_4 (fun E ce q9 H locs hE hP hD hS hce hcv hcl => ?_) (fun H locs hE hP hD hS => ?_)
  ·
    rcases hcd E hE with rfl | rfl
    ·
      refine vx_catch (E := "java/lang/IllegalArgumentException") (name := "java/lang/IllegalArgumentException") hown [] ⟨0, 9, 12, 19⟩ [⟨0, 9, 15, 28⟩] (by rw [htab]; rfl) (fun z hz => absurd hz List.not_mem_nil) (by decide) (by decide) w1 (cast_self hC.2.2.2.2 "java/lang/IllegalArgumentException" (by decide)) hce hcv hcl ?_
      refine lv_astore_n (lv' := [(3, .ref (q9)), (0, .ref (v 0)), (1, .int (z)), (2, .ref (ob))]) hx hb dL_nextJustified_12 rfl hl (by decide) rfl (fun ls hl => ?_)
      refine lv_iconst (v := 1) hx hb dL_nextJustified_13 (by decide) ?_
      refine endI (r := kC "java/lang/IllegalArgumentException" (orE (chkB (rg z 0 3) "java/lang/IllegalArgumentException") (chkB ((nextC (O 0) C nt z.toNatClampNeg).isSome) "java/util/NoSuchElementException"))) (by rw [hE]; simp [kC]) ?_
      exact hret _ _ _ _ dL_nextJustified_14 (by rw [hE]; exact hP) (by rw [hE]; exact hD) hS
    ·
      refine vx_catch (E := "java/util/NoSuchElementException") (name := "java/util/NoSuchElementException") hown [⟨0, 9, 12, 19⟩] ⟨0, 9, 15, 28⟩ [] (by rw [htab]; rfl) (fun z hz => by obtain rfl := List.mem_singleton.mp hz; exact Or.inr ⟨by decide, "java/lang/IllegalArgumentException", w1, hNC "java/util/NoSuchElementException" (by decide) "java/lang/IllegalArgumentException" (by decide) (by decide)⟩) (by decide) (by decide) w2 (cast_self hC.2.2.2.2 "java/util/NoSuchElementException" (by decide)) hce hcv hcl ?_
      refine lv_astore_n (lv' := [(3, .ref (q9)), (0, .ref (v 0)), (1, .int (z)), (2, .ref (ob))]) hx hb dL_nextJustified_15 rfl hl (by decide) rfl (fun ls hl => ?_)
      refine lv_iconst (v := 2) hx hb dL_nextJustified_16 (by decide) ?_
      refine endI (r := kC "java/lang/IllegalArgumentException" (orE (chkB (rg z 0 3) "java/lang/IllegalArgumentException") (chkB ((nextC (O 0) C nt z.toNatClampNeg).isSome) "java/util/NoSuchElementException"))) (by rw [hE]; simp [kC]) ?_
      exact hret _ _ _ _ dL_nextJustified_17 (by rw [hE]; exact hP) (by rw [hE]; exact hD) hS
  ·
    refine lv_i2l (v := ((nextC (O 0) C nt z.toNatClampNeg).elim 0 nI).toInt64) hx hb dL_nextJustified_7 rfl ?_
    refine va_last hx hb hK hP hD hS 0 3 rfl rfl (by unfold vp_in; decide) dL_nextJustified_8 (fun H locs hP hD hS => ?_)
    rw [show (0 : Int32).toNatClampNeg = 0 from by decide] at hP hD
    have hP : va_P D vwCl (OUT T ob (vp_updL fo 0 ((nextC (O 0) C nt z.toNatClampNeg).elim 0 nI).toInt64) :: WIN T v B O g ln un nx pl f0 f1 f2) H := hP
    have hD : va_D A (OUT T ob (vp_updL fo 0 ((nextC (O 0) C nt z.toNatClampNeg).elim 0 nI).toInt64) :: WIN T v B O g ln un nx pl f0 f1 f2) := hD
    refine lv_goto (tgt := 18) hx hb dL_nextJustified_9 (by decide) ?_
    refine lv_iconst (v := 0) hx hb dL_nextJustified_18 (by decide) ?_
    refine endI (r := kC "java/lang/IllegalArgumentException" (orE (chkB (rg z 0 3) "java/lang/IllegalArgumentException") (chkB ((nextC (O 0) C nt z.toNatClampNeg).isSome) "java/util/NoSuchElementException"))) (by rw [hE]; rfl) ?_
    exact hret _ _ _ _ dL_nextJustified_19 (by rw [hE]; exact hP) (by rw [hE]; exact hD) hS

set_option maxHeartbeats 4000000 in
set_option maxRecDepth 100000 in
theorem c_L_nightsToClose (l : Launch) (hl9 : l.stackTraces = false) (D : va_G) (T : Nat → ClassId) (aK aV : Nat → Nat) (v : Nat → Nat) (B : Nat → Nat → Nat) (O : Nat → Nat → Nat → Int32) (g : CSt) (ln un nx pl : Nat) (f0 f1 f2 : Nat → Int32) (ob : Nat) (fo : Nat → Int64) (z : Int32) (N : Nat) (K : Nat) (C : Nat) (nt : Nat) (hOI : OI (O 0) N K C nt) (hnt2 : nt < 2 ^ 17) (sz : Nat) : Met l yL_nightsToClose wsL_nightsToClose ({ frames := 8, cells := 2, slots := 12, locals := 174 } : Room) (va_Pc [.ref (v 0), .int (z), .ref (ob)] (fun U => PSc D T aK aV (OUT T ob fo :: WIN T v B O g ln un nx pl f0 f1 f2) sz U ∧ NCX U)) (va_Qi (fun r9 (_ : Unit) => r9 = kC "java/lang/IndexOutOfBoundsException" (orE (chkB (inN z N) "java/lang/IndexOutOfBoundsException") (chkB (decide ((O 0) 8 z.toNatClampNeg = 0)) "java/lang/IllegalStateException"))) (fun _ t => QS D T (va_A (OUT T ob fo :: WIN T v B O g ln un nx pl f0 f1 f2) sz) (wC (OUT T ob (vp_updL fo 0 (nI (cUntil N K C z.toNatClampNeg 56 nt (O 0)).1).toInt64) :: WIN T v B (va_up O 1 ((cUntil N K C z.toNatClampNeg 56 nt (O 0)).2)) g ln un nx pl f0 f1 f2) (OUT T ob fo :: WIN T v B O g ln un nx pl f0 f1 f2) (orE (chkB (inN z N) "java/lang/IndexOutOfBoundsException") (chkB (decide ((O 0) 8 z.toNatClampNeg = 0)) "java/lang/IllegalStateException"))) t) (va_A (OUT T ob fo :: WIN T v B O g ln un nx pl f0 f1 f2) sz)) 2 12 (va_A (OUT T ob fo :: WIN T v B O g ln un nx pl f0 f1 f2) sz) := by
  have hcd : oneOf "java/lang/IndexOutOfBoundsException" "java/lang/IllegalStateException" (orE (chkB (inN z N) "java/lang/IndexOutOfBoundsException") (chkB (decide ((O 0) 8 z.toNatClampNeg = 0)) "java/lang/IllegalStateException")) := oneOf_or (oneOf_chk (Or.inl rfl)) (oneOf_chk (Or.inr rfl))
  refine metLi (cc := cL_nightsToClose) (maxL := 4) (by decide) rfl (Nat.le_of_ble_eq_true rfl) ?_
  intro p e s m args below meth c Q ls A hx hb hml hown hts htab hNC hC hP hK hD hA hS hl hret
  have hown : s.vm.findClass RL = some m.cls := hown
  have hl : lv_has ls 4 [(0, .ref (v 0)), (1, .int (z)), (2, .ref (ob))] := hl
  have w1 := hts (Cond.classLink RL 55 "java/lang/IndexOutOfBoundsException") (List.mem_of_getElem? (i := 1) rfl)
  have w2 := hts (Cond.classLink RL 13 "java/lang/IllegalStateException") (List.mem_of_getElem? (i := 2) rfl)
  refine lv_aload_n hx hb dL_nightsToClose_0 rfl (lv_at hl 2 rfl) ?_
  refine lv_iconst (v := 0) hx hb dL_nightsToClose_1 (by decide) ?_
  refine lv_aload_n hx hb dL_nightsToClose_2 rfl (lv_at hl 0 rfl) ?_
  refine lv_iload_n hx hb dL_nightsToClose_3 rfl (lv_at hl 1 rfl) ?_
  refine wxVi (As := [.int (z)]) (rest := [.int 0, .ref (ob)]) ⟨hx, hb, hml, hown, hts⟩ (c_X9_nightsToClose l hl9 D T aK aV v B O g ln un nx pl f0 f1 f2 z N K C nt hOI hnt2 _) (cwV 1 hts gL_nightsToClose_X9_nightsToClose rfl rfl rfl (by decide +kernel) ⟨Nat.le_of_ble_eq_true rfl, Nat.le_of_ble_eq_true rfl⟩) (Foc.cons (OUT T ob fo) _ _) (Foc.cons (OUT T ob fo) _ _) hC hK hP hD hS hA 0 rfl rfl rfl hl.1 rfl (Nat.le_of_ble_eq_true rfl) ⟨Nat.le_of_ble_eq_true rfl, Nat.le_of_ble_eq_true rfl⟩ dL_nightsToClose_4 (fun E ce q9 H locs hE hP hD hS hce hcv hcl => ?_) (fun H locs hE hP hD hS => ?_)
  ·
    rcases hcd E hE with rfl | rfl
    ·
      refine vx_catch (E := "java/lang/IndexOutOfBoundsException") (name := "java/lang/IndexOutOfBoundsException") hown [] ⟨0, 9, 12, 55⟩ [⟨0, 9, 15, 13⟩] (by rw [htab]; rfl) (fun z hz => absurd hz List.not_mem_nil) (by decide) (by decide) w1 (cast_self hC.2.2.2.2 "java/lang/IndexOutOfBoundsException" (by decide)) hce hcv hcl ?_
      refine lv_astore_n (lv' := [(3, .ref (q9)), (0, .ref (v 0)), (1, .int (z)), (2, .ref (ob))]) hx hb dL_nightsToClose_12 rfl hl (by decide) rfl (fun ls hl => ?_)
      refine lv_iconst (v := 1) hx hb dL_nightsToClose_13 (by decide) ?_
      refine endI (r := kC "java/lang/IndexOutOfBoundsException" (orE (chkB (inN z N) "java/lang/IndexOutOfBoundsException") (chkB (decide ((O 0) 8 z.toNatClampNeg = 0)) "java/lang/IllegalStateException"))) (by rw [hE]; simp [kC]) ?_
      exact hret _ _ _ _ dL_nightsToClose_14 (by rw [hE]; exact hP) (by rw [hE]; exact hD) hS
    ·
      refine vx_catch (E := "java/lang/IllegalStateException") (name := "java/lang/IllegalStateException") hown [⟨0, 9, 12, 55⟩] ⟨0, 9, 15, 13⟩ [] (by rw [htab]; rfl) (fun z hz => by obtain rfl := List.mem_singleton.mp hz; exact Or.inr ⟨by decide, "java/lang/IndexOutOfBoundsException", w1, hNC "java/lang/IllegalStateException" (by decide) "java/lang/IndexOutOfBoundsException" (by decide) (by decide)⟩) (by decide) (by decide) w2 (cast_self hC.2.2.2.2 "java/lang/IllegalStateException" (by decide)) hce hcv hcl ?_
      refine lv_astore_n (lv' := [(3, .ref (q9)), (0, .ref (v 0)), (1, .int (z)), (2, .ref (ob))]) hx hb dL_nightsToClose_15 rfl hl (by decide) rfl (fun ls hl => ?_)
      refine lv_iconst (v := 2) hx hb dL_nightsToClose_16 (by decide) ?_
      refine endI (r := kC "java/lang/IndexOutOfBoundsException" (orE (chkB (inN z N) "java/lang/IndexOutOfBoundsException") (chkB (decide ((O 0) 8 z.toNatClampNeg = 0)) "java/lang/IllegalStateException"))) (by rw [hE]; simp [kC]) ?_
      exact hret _ _ _ _ dL_nightsToClose_17 (by rw [hE]; exact hP) (by rw [hE]; exact hD) hS
  ·
    refine lv_i2l (v := (nI (cUntil N K C z.toNatClampNeg 56 nt (O 0)).1).toInt64) hx hb dL_nightsToClose_7 rfl ?_
    refine va_last hx hb hK hP hD hS 0 3 rfl rfl (by unfold vp_in; decide) dL_nightsToClose_8 (fun H locs hP hD hS => ?_)
    rw [show (0 : Int32).toNatClampNeg = 0 from by decide] at hP hD
    have hP : va_P D vwCl (OUT T ob (vp_updL fo 0 (nI (cUntil N K C z.toNatClampNeg 56 nt (O 0)).1).toInt64) :: WIN T v B (va_up O 1 ((cUntil N K C z.toNatClampNeg 56 nt (O 0)).2)) g ln un nx pl f0 f1 f2) H := hP
    have hD : va_D A (OUT T ob (vp_updL fo 0 (nI (cUntil N K C z.toNatClampNeg 56 nt (O 0)).1).toInt64) :: WIN T v B (va_up O 1 ((cUntil N K C z.toNatClampNeg 56 nt (O 0)).2)) g ln un nx pl f0 f1 f2) := hD
    refine lv_goto (tgt := 18) hx hb dL_nightsToClose_9 (by decide) ?_
    refine lv_iconst (v := 0) hx hb dL_nightsToClose_18 (by decide) ?_
    refine endI (r := kC "java/lang/IndexOutOfBoundsException" (orE (chkB (inN z N) "java/lang/IndexOutOfBoundsException") (chkB (decide ((O 0) 8 z.toNatClampNeg = 0)) "java/lang/IllegalStateException"))) (by rw [hE]; rfl) ?_
    exact hret _ _ _ _ dL_nightsToClose_19 (by rw [hE]; exact hP) (by rw [hE]; exact hD) hS

set_option maxHeartbeats 4000000 in
set_option maxRecDepth 100000 in
theorem c_L_oilOf (l : Launch) (hl9 : l.stackTraces = false) (D : va_G) (T : Nat → ClassId) (aK aV : Nat → Nat) (v : Nat → Nat) (B : Nat → Nat → Nat) (O : Nat → Nat → Nat → Int32) (g : CSt) (ln un nx pl : Nat) (f0 f1 f2 : Nat → Int32) (ob : Nat) (fo : Nat → Int64) (z : Int32) (N : Nat) (K : Nat) (C : Nat) (nt : Nat) (hOI : OI (O 0) N K C nt) (sz : Nat) : Met l yL_oilOf wsL_oilOf ({ frames := 8, cells := 1, slots := 6, locals := 132 } : Room) (va_Pc [.ref (v 0), .int (z), .ref (ob)] (fun U => PSc D T aK aV (OUT T ob fo :: WIN T v B O g ln un nx pl f0 f1 f2) sz U ∧ NCX U)) (va_Qi (fun r9 (_ : Unit) => r9 = kC "java/lang/IndexOutOfBoundsException" (chkB (inN z K) "java/lang/IndexOutOfBoundsException")) (fun _ t => QS D T (va_A (OUT T ob fo :: WIN T v B O g ln un nx pl f0 f1 f2) sz) (wC (OUT T ob (vp_updL fo 0 ((O 0) 3 z.toNatClampNeg).toInt64) :: WIN T v B O g ln un nx pl f0 f1 f2) (OUT T ob fo :: WIN T v B O g ln un nx pl f0 f1 f2) (chkB (inN z K) "java/lang/IndexOutOfBoundsException")) t) (va_A (OUT T ob fo :: WIN T v B O g ln un nx pl f0 f1 f2) sz)) 1 6 (va_A (OUT T ob fo :: WIN T v B O g ln un nx pl f0 f1 f2) sz) := by
  have hcd : oneOf "java/lang/IndexOutOfBoundsException" "java/lang/IndexOutOfBoundsException" (chkB (inN z K) "java/lang/IndexOutOfBoundsException") := oneOf_chk (Or.inl rfl)
  refine metLi (cc := cL_oilOf) (maxL := 4) (by decide) rfl (Nat.le_of_ble_eq_true rfl) ?_
  intro p e s m args below meth c Q ls A hx hb hml hown hts htab hNC hC hP hK hD hA hS hl hret
  have hown : s.vm.findClass RL = some m.cls := hown
  have hl : lv_has ls 4 [(0, .ref (v 0)), (1, .int (z)), (2, .ref (ob))] := hl
  have w1 := hts (Cond.classLink RL 55 "java/lang/IndexOutOfBoundsException") (List.mem_of_getElem? (i := 1) rfl)
  refine lv_aload_n hx hb dL_oilOf_0 rfl (lv_at hl 2 rfl) ?_
  refine lv_iconst (v := 0) hx hb dL_oilOf_1 (by decide) ?_
  refine lv_aload_n hx hb dL_oilOf_2 rfl (lv_at hl 0 rfl) ?_
  refine lv_iload_n hx hb dL_oilOf_3 rfl (lv_at hl 1 rfl) ?_
  refine wxVi (As := [.int (z)]) (rest := [.int 0, .ref (ob)]) ⟨hx, hb, hml, hown, hts⟩ (c_X9_oilOf l hl9 D T aK aV v B O g ln un nx pl f0 f1 f2 z N K C nt hOI _) (cwV 1 hts gL_oilOf_X9_oilOf rfl rfl rfl (by decide +kernel) ⟨Nat.le_of_ble_eq_true rfl, Nat.le_of_ble_eq_true rfl⟩) (Foc.cons (OUT T ob fo) _ _) (Foc.cons (OUT T ob fo) _ _) hC hK hP hD hS hA 0 rfl rfl rfl hl.1 rfl (Nat.le_of_ble_eq_true rfl) ⟨Nat.le_of_ble_eq_true rfl, Nat.le_of_ble_eq_true rfl⟩ dL_oilOf_4 (fun E ce q9 H locs hE hP hD hS hce hcv hcl => ?_) (fun H locs hE hP hD hS => ?_)
  ·
    obtain rfl : E = "java/lang/IndexOutOfBoundsException" := (hcd E hE).elim id id
    refine vx_catch (E := "java/lang/IndexOutOfBoundsException") (name := "java/lang/IndexOutOfBoundsException") hown [] ⟨0, 9, 12, 55⟩ [] (by rw [htab]; rfl) (fun z hz => absurd hz List.not_mem_nil) (by decide) (by decide) w1 (cast_self hC.2.2.2.2 "java/lang/IndexOutOfBoundsException" (by decide)) hce hcv hcl ?_
    refine lv_astore_n (lv' := [(3, .ref (q9)), (0, .ref (v 0)), (1, .int (z)), (2, .ref (ob))]) hx hb dL_oilOf_12 rfl hl (by decide) rfl (fun ls hl => ?_)
    refine lv_iconst (v := 1) hx hb dL_oilOf_13 (by decide) ?_
    refine endI (r := kC "java/lang/IndexOutOfBoundsException" (chkB (inN z K) "java/lang/IndexOutOfBoundsException")) (by rw [hE]; simp [kC]) ?_
    exact hret _ _ _ _ dL_oilOf_14 (by rw [hE]; exact hP) (by rw [hE]; exact hD) hS
  ·
    refine lv_i2l (v := ((O 0) 3 z.toNatClampNeg).toInt64) hx hb dL_oilOf_7 rfl ?_
    refine va_last hx hb hK hP hD hS 0 3 rfl rfl (by unfold vp_in; decide) dL_oilOf_8 (fun H locs hP hD hS => ?_)
    rw [show (0 : Int32).toNatClampNeg = 0 from by decide] at hP hD
    have hP : va_P D vwCl (OUT T ob (vp_updL fo 0 ((O 0) 3 z.toNatClampNeg).toInt64) :: WIN T v B O g ln un nx pl f0 f1 f2) H := hP
    have hD : va_D A (OUT T ob (vp_updL fo 0 ((O 0) 3 z.toNatClampNeg).toInt64) :: WIN T v B O g ln un nx pl f0 f1 f2) := hD
    refine lv_goto (tgt := 15) hx hb dL_oilOf_9 (by decide) ?_
    refine lv_iconst (v := 0) hx hb dL_oilOf_15 (by decide) ?_
    refine endI (r := kC "java/lang/IndexOutOfBoundsException" (chkB (inN z K) "java/lang/IndexOutOfBoundsException")) (by rw [hE]; rfl) ?_
    exact hret _ _ _ _ dL_oilOf_16 (by rw [hE]; exact hP) (by rw [hE]; exact hD) hS

set_option maxHeartbeats 4000000 in
set_option maxRecDepth 100000 in
theorem c_L_oldest (l : Launch) (hl9 : l.stackTraces = false) (D : va_G) (T : Nat → ClassId) (aK aV : Nat → Nat) (v : Nat → Nat) (B : Nat → Nat → Nat) (O : Nat → Nat → Nat → Int32) (g : CSt) (ln un nx pl : Nat) (f0 f1 f2 : Nat → Int32) (ob : Nat) (fo : Nat → Int64) (N : Nat) (K : Nat) (C : Nat) (nt : Nat) (hOI : OI (O 0) N K C nt) (sz : Nat) : Met l yL_oldest wsL_oldest ({ frames := 7, cells := 1, slots := 6, locals := 111 } : Room) (va_Pc [.ref (v 0), .ref (ob)] (fun U => PSc D T aK aV (OUT T ob fo :: WIN T v B O g ln un nx pl f0 f1 f2) sz U ∧ NCX U)) (va_Qi (fun r9 (_ : Unit) => r9 = kC "java/util/NoSuchElementException" (chkB ((firstC (O 0) ((O 0) 0 0) N).isSome) "java/util/NoSuchElementException")) (fun _ t => QS D T (va_A (OUT T ob fo :: WIN T v B O g ln un nx pl f0 f1 f2) sz) (wC (OUT T ob (vp_updL fo 0 ((firstC (O 0) ((O 0) 0 0) N).elim 0 nI).toInt64) :: WIN T v B O g ln un nx pl f0 f1 f2) (OUT T ob fo :: WIN T v B O g ln un nx pl f0 f1 f2) (chkB ((firstC (O 0) ((O 0) 0 0) N).isSome) "java/util/NoSuchElementException")) t) (va_A (OUT T ob fo :: WIN T v B O g ln un nx pl f0 f1 f2) sz)) 1 6 (va_A (OUT T ob fo :: WIN T v B O g ln un nx pl f0 f1 f2) sz) := by
  have hcd : oneOf "java/util/NoSuchElementException" "java/util/NoSuchElementException" (chkB ((firstC (O 0) ((O 0) 0 0) N).isSome) "java/util/NoSuchElementException") := oneOf_chk (Or.inl rfl)
  refine metLi (cc := cL_oldest) (maxL := 3) (by decide) rfl (Nat.le_of_ble_eq_true rfl) ?_
  intro p e s m args below meth c Q ls A hx hb hml hown hts htab hNC hC hP hK hD hA hS hl hret
  have hown : s.vm.findClass RL = some m.cls := hown
  have hl : lv_has ls 3 [(0, .ref (v 0)), (1, .ref (ob))] := hl
  have w1 := hts (Cond.classLink RL 28 "java/util/NoSuchElementException") (List.mem_of_getElem? (i := 1) rfl)
  refine lv_aload_n hx hb dL_oldest_0 rfl (lv_at hl 1 rfl) ?_
  refine lv_iconst (v := 0) hx hb dL_oldest_1 (by decide) ?_
  refine lv_aload_n hx hb dL_oldest_2 rfl (lv_at hl 0 rfl) ?_
  refine wxVi (As := []) (rest := [.int 0, .ref (ob)]) ⟨hx, hb, hml, hown, hts⟩ (c_X9_oldest l hl9 D T aK aV v B O g ln un nx pl f0 f1 f2 N K C nt hOI _) (cwV 0 hts gL_oldest_X9_oldest rfl rfl rfl (by decide +kernel) ⟨Nat.le_of_ble_eq_true rfl, Nat.le_of_ble_eq_true rfl⟩) (Foc.cons (OUT T ob fo) _ _) (Foc.cons (OUT T ob fo) _ _) hC hK hP hD hS hA 0 rfl rfl rfl hl.1 rfl (Nat.le_of_ble_eq_true rfl) ⟨Nat.le_of_ble_eq_true rfl, Nat.le_of_ble_eq_true rfl⟩ dL_oldest_3 (fun E ce q9 H locs hE hP hD hS hce hcv hcl => ?_) (fun H locs hE hP hD hS => ?_)
  ·
    obtain rfl : E = "java/util/NoSuchElementException" := (hcd E hE).elim id id
    refine vx_catch (E := "java/util/NoSuchElementException") (name := "java/util/NoSuchElementException") hown [] ⟨0, 8, 11, 28⟩ [] (by rw [htab]; rfl) (fun z hz => absurd hz List.not_mem_nil) (by decide) (by decide) w1 (cast_self hC.2.2.2.2 "java/util/NoSuchElementException" (by decide)) hce hcv hcl ?_
    refine lv_astore_n (lv' := [(2, .ref (q9)), (0, .ref (v 0)), (1, .ref (ob))]) hx hb dL_oldest_11 rfl hl (by decide) rfl (fun ls hl => ?_)
    refine lv_iconst (v := 1) hx hb dL_oldest_12 (by decide) ?_
    refine endI (r := kC "java/util/NoSuchElementException" (chkB ((firstC (O 0) ((O 0) 0 0) N).isSome) "java/util/NoSuchElementException")) (by rw [hE]; simp [kC]) ?_
    exact hret _ _ _ _ dL_oldest_13 (by rw [hE]; exact hP) (by rw [hE]; exact hD) hS
  ·
    refine lv_i2l (v := ((firstC (O 0) ((O 0) 0 0) N).elim 0 nI).toInt64) hx hb dL_oldest_6 rfl ?_
    refine va_last hx hb hK hP hD hS 0 3 rfl rfl (by unfold vp_in; decide) dL_oldest_7 (fun H locs hP hD hS => ?_)
    rw [show (0 : Int32).toNatClampNeg = 0 from by decide] at hP hD
    have hP : va_P D vwCl (OUT T ob (vp_updL fo 0 ((firstC (O 0) ((O 0) 0 0) N).elim 0 nI).toInt64) :: WIN T v B O g ln un nx pl f0 f1 f2) H := hP
    have hD : va_D A (OUT T ob (vp_updL fo 0 ((firstC (O 0) ((O 0) 0 0) N).elim 0 nI).toInt64) :: WIN T v B O g ln un nx pl f0 f1 f2) := hD
    refine lv_goto (tgt := 14) hx hb dL_oldest_8 (by decide) ?_
    refine lv_iconst (v := 0) hx hb dL_oldest_14 (by decide) ?_
    refine endI (r := kC "java/util/NoSuchElementException" (chkB ((firstC (O 0) ((O 0) 0 0) N).isSome) "java/util/NoSuchElementException")) (by rw [hE]; rfl) ?_
    exact hret _ _ _ _ dL_oldest_15 (by rw [hE]; exact hP) (by rw [hE]; exact hD) hS

set_option maxHeartbeats 4000000 in
set_option maxRecDepth 100000 in
theorem c_L_personOf (l : Launch) (hl9 : l.stackTraces = false) (D : va_G) (T : Nat → ClassId) (aK aV : Nat → Nat) (v : Nat → Nat) (B : Nat → Nat → Nat) (O : Nat → Nat → Nat → Int32) (g : CSt) (ln un nx pl : Nat) (f0 f1 f2 : Nat → Int32) (ob : Nat) (fo : Nat → Int64) (z : Int32) (N : Nat) (K : Nat) (C : Nat) (nt : Nat) (hOI : OI (O 0) N K C nt) (sz : Nat) : Met l yL_personOf wsL_personOf ({ frames := 8, cells := 1, slots := 6, locals := 132 } : Room) (va_Pc [.ref (v 0), .int (z), .ref (ob)] (fun U => PSc D T aK aV (OUT T ob fo :: WIN T v B O g ln un nx pl f0 f1 f2) sz U ∧ NCX U)) (va_Qi (fun r9 (_ : Unit) => r9 = kC "java/lang/IndexOutOfBoundsException" (chkB (inN z N) "java/lang/IndexOutOfBoundsException")) (fun _ t => QS D T (va_A (OUT T ob fo :: WIN T v B O g ln un nx pl f0 f1 f2) sz) (wC (OUT T ob (vp_updL fo 0 ((O 0) 4 z.toNatClampNeg).toInt64) :: WIN T v B O g ln un nx pl f0 f1 f2) (OUT T ob fo :: WIN T v B O g ln un nx pl f0 f1 f2) (chkB (inN z N) "java/lang/IndexOutOfBoundsException")) t) (va_A (OUT T ob fo :: WIN T v B O g ln un nx pl f0 f1 f2) sz)) 1 6 (va_A (OUT T ob fo :: WIN T v B O g ln un nx pl f0 f1 f2) sz) := by
  have hcd : oneOf "java/lang/IndexOutOfBoundsException" "java/lang/IndexOutOfBoundsException" (chkB (inN z N) "java/lang/IndexOutOfBoundsException") := oneOf_chk (Or.inl rfl)
  refine metLi (cc := cL_personOf) (maxL := 4) (by decide) rfl (Nat.le_of_ble_eq_true rfl) ?_
  intro p e s m args below meth c Q ls A hx hb hml hown hts htab hNC hC hP hK hD hA hS hl hret
  have hown : s.vm.findClass RL = some m.cls := hown
  have hl : lv_has ls 4 [(0, .ref (v 0)), (1, .int (z)), (2, .ref (ob))] := hl
  have w1 := hts (Cond.classLink RL 55 "java/lang/IndexOutOfBoundsException") (List.mem_of_getElem? (i := 1) rfl)
  refine lv_aload_n hx hb dL_personOf_0 rfl (lv_at hl 2 rfl) ?_
  refine lv_iconst (v := 0) hx hb dL_personOf_1 (by decide) ?_
  refine lv_aload_n hx hb dL_personOf_2 rfl (lv_at hl 0 rfl) ?_
  refine lv_iload_n hx hb dL_personOf_3 rfl (lv_at hl 1 rfl) ?_
  refine wxVi (As := [.int (z)]) (rest := [.int 0, .ref (ob)]) ⟨hx, hb, hml, hown, hts⟩ (c_X9_personOf l hl9 D T aK aV v B O g ln un nx pl f0 f1 f2 z N K C nt hOI _) (cwV 1 hts gL_personOf_X9_personOf rfl rfl rfl (by decide +kernel) ⟨Nat.le_of_ble_eq_true rfl, Nat.le_of_ble_eq_true rfl⟩) (Foc.cons (OUT T ob fo) _ _) (Foc.cons (OUT T ob fo) _ _) hC hK hP hD hS hA 0 rfl rfl rfl hl.1 rfl (Nat.le_of_ble_eq_true rfl) ⟨Nat.le_of_ble_eq_true rfl, Nat.le_of_ble_eq_true rfl⟩ dL_personOf_4 (fun E ce q9 H locs hE hP hD hS hce hcv hcl => ?_) (fun H locs hE hP hD hS => ?_)
  ·
    obtain rfl : E = "java/lang/IndexOutOfBoundsException" := (hcd E hE).elim id id
    refine vx_catch (E := "java/lang/IndexOutOfBoundsException") (name := "java/lang/IndexOutOfBoundsException") hown [] ⟨0, 9, 12, 55⟩ [] (by rw [htab]; rfl) (fun z hz => absurd hz List.not_mem_nil) (by decide) (by decide) w1 (cast_self hC.2.2.2.2 "java/lang/IndexOutOfBoundsException" (by decide)) hce hcv hcl ?_
    refine lv_astore_n (lv' := [(3, .ref (q9)), (0, .ref (v 0)), (1, .int (z)), (2, .ref (ob))]) hx hb dL_personOf_12 rfl hl (by decide) rfl (fun ls hl => ?_)
    refine lv_iconst (v := 1) hx hb dL_personOf_13 (by decide) ?_
    refine endI (r := kC "java/lang/IndexOutOfBoundsException" (chkB (inN z N) "java/lang/IndexOutOfBoundsException")) (by rw [hE]; simp [kC]) ?_
    exact hret _ _ _ _ dL_personOf_14 (by rw [hE]; exact hP) (by rw [hE]; exact hD) hS
  ·
    refine lv_i2l (v := ((O 0) 4 z.toNatClampNeg).toInt64) hx hb dL_personOf_7 rfl ?_
    refine va_last hx hb hK hP hD hS 0 3 rfl rfl (by unfold vp_in; decide) dL_personOf_8 (fun H locs hP hD hS => ?_)
    rw [show (0 : Int32).toNatClampNeg = 0 from by decide] at hP hD
    have hP : va_P D vwCl (OUT T ob (vp_updL fo 0 ((O 0) 4 z.toNatClampNeg).toInt64) :: WIN T v B O g ln un nx pl f0 f1 f2) H := hP
    have hD : va_D A (OUT T ob (vp_updL fo 0 ((O 0) 4 z.toNatClampNeg).toInt64) :: WIN T v B O g ln un nx pl f0 f1 f2) := hD
    refine lv_goto (tgt := 15) hx hb dL_personOf_9 (by decide) ?_
    refine lv_iconst (v := 0) hx hb dL_personOf_15 (by decide) ?_
    refine endI (r := kC "java/lang/IndexOutOfBoundsException" (chkB (inN z N) "java/lang/IndexOutOfBoundsException")) (by rw [hE]; rfl) ?_
    exact hret _ _ _ _ dL_personOf_16 (by rw [hE]; exact hP) (by rw [hE]; exact hD) hS

set_option maxHeartbeats 4000000 in
set_option maxRecDepth 100000 in
theorem c_L_refill (l : Launch) (hl9 : l.stackTraces = false) (D : va_G) (T : Nat → ClassId) (aK aV : Nat → Nat) (v : Nat → Nat) (B : Nat → Nat → Nat) (O : Nat → Nat → Nat → Int32) (g : CSt) (ln un nx pl : Nat) (f0 f1 f2 : Nat → Int32) (ob : Nat) (fo : Nat → Int64) (z : Int32) (z1 : Int32) (N : Nat) (K : Nat) (C : Nat) (nt : Nat) (hOI : OI (O 0) N K C nt) (hu : un ≤ 8) (hnx : nx < 8) (sz : Nat) : Met l yL_refill wsL_refill ({ frames := 8, cells := 2, slots := 12, locals := 134 } : Room) (va_Pc [.ref (v 0), .int (z), .int (z1), .ref (ob)] (fun U => PSc D T aK aV (OUT T ob fo :: WIN T v B O g ln un nx pl f0 f1 f2) sz U ∧ NCX U)) (va_Qi (fun r9 (_ : Unit) => r9 = kC "java/lang/IndexOutOfBoundsException" (orE (chkB (inN z K) "java/lang/IndexOutOfBoundsException") (chkB (rg z1 1 99) "java/lang/IllegalArgumentException"))) (fun _ t => QS D T (va_A (OUT T ob fo :: WIN T v B O g ln un nx pl f0 f1 f2) sz) (wC (OUT T ob (vp_updL fo 0 (if (O 0) 3 z.toNatClampNeg + z1 < 99 then (O 0) 3 z.toNatClampNeg + z1 else 99).toInt64) :: WIN T v B (va_up (va_up O (3 + nx) (O 0)) 0 (va_up (O 0) 3 (va_up ((O 0) 3) z.toNatClampNeg (if (O 0) 3 z.toNatClampNeg + z1 < 99 then (O 0) 3 z.toNatClampNeg + z1 else 99)))) g ln (if un = 8 then 8 else un + 1) ((nx + 1) % 8) pl f0 f1 f2) (OUT T ob fo :: WIN T v B O g ln un nx pl f0 f1 f2) (orE (chkB (inN z K) "java/lang/IndexOutOfBoundsException") (chkB (rg z1 1 99) "java/lang/IllegalArgumentException"))) t) (va_A (OUT T ob fo :: WIN T v B O g ln un nx pl f0 f1 f2) sz)) 2 12 (va_A (OUT T ob fo :: WIN T v B O g ln un nx pl f0 f1 f2) sz) := by
  have hcd : oneOf "java/lang/IndexOutOfBoundsException" "java/lang/IllegalArgumentException" (orE (chkB (inN z K) "java/lang/IndexOutOfBoundsException") (chkB (rg z1 1 99) "java/lang/IllegalArgumentException")) := oneOf_or (oneOf_chk (Or.inl rfl)) (oneOf_chk (Or.inr rfl))
  refine metLi (cc := cL_refill) (maxL := 5) (by decide) rfl (Nat.le_of_ble_eq_true rfl) ?_
  intro p e s m args below meth c Q ls A hx hb hml hown hts htab hNC hC hP hK hD hA hS hl hret
  have hown : s.vm.findClass RL = some m.cls := hown
  have hl : lv_has ls 5 [(0, .ref (v 0)), (1, .int (z)), (2, .int (z1)), (3, .ref (ob))] := hl
  have w1 := hts (Cond.classLink RL 55 "java/lang/IndexOutOfBoundsException") (List.mem_of_getElem? (i := 1) rfl)
  have w2 := hts (Cond.classLink RL 19 "java/lang/IllegalArgumentException") (List.mem_of_getElem? (i := 2) rfl)
  refine lv_aload_n hx hb dL_refill_0 rfl (lv_at hl 3 rfl) ?_
  refine lv_iconst (v := 0) hx hb dL_refill_1 (by decide) ?_
  refine lv_aload_n hx hb dL_refill_2 rfl (lv_at hl 0 rfl) ?_
  refine lv_iload_n hx hb dL_refill_3 rfl (lv_at hl 1 rfl) ?_
  refine lv_iload_n hx hb dL_refill_4 rfl (lv_at hl 2 rfl) ?_
  refine wxVi (As := [.int (z), .int (z1)]) (rest := [.int 0, .ref (ob)]) ⟨hx, hb, hml, hown, hts⟩ (c_X9_refill l hl9 D T aK aV v B O g ln un nx pl f0 f1 f2 z z1 N K C nt hOI hu hnx _) (cwV 2 hts gL_refill_X9_refill rfl rfl rfl (by decide +kernel) ⟨Nat.le_of_ble_eq_true rfl, Nat.le_of_ble_eq_true rfl⟩) (Foc.cons (OUT T ob fo) _ _) (Foc.cons (OUT T ob fo) _ _) hC hK hP hD hS hA 0 rfl rfl rfl hl.1 rfl (Nat.le_of_ble_eq_true rfl) ⟨Nat.le_of_ble_eq_true rfl, Nat.le_of_ble_eq_true rfl⟩ dL_refill_5 (fun E ce q9 H locs hE hP hD hS hce hcv hcl => ?_) (fun H locs hE hP hD hS => ?_)
  ·
    rcases hcd E hE with rfl | rfl
    ·
      refine vx_catch (E := "java/lang/IndexOutOfBoundsException") (name := "java/lang/IndexOutOfBoundsException") hown [] ⟨0, 10, 13, 55⟩ [⟨0, 10, 17, 19⟩] (by rw [htab]; rfl) (fun z hz => absurd hz List.not_mem_nil) (by decide) (by decide) w1 (cast_self hC.2.2.2.2 "java/lang/IndexOutOfBoundsException" (by decide)) hce hcv hcl ?_
      refine lv_astore (lv' := [(4, .ref (q9)), (0, .ref (v 0)), (1, .int (z)), (2, .int (z1)), (3, .ref (ob))]) hx hb dL_refill_13 hl (by decide) rfl (fun ls hl => ?_)
      refine lv_iconst (v := 1) hx hb dL_refill_15 (by decide) ?_
      refine endI (r := kC "java/lang/IndexOutOfBoundsException" (orE (chkB (inN z K) "java/lang/IndexOutOfBoundsException") (chkB (rg z1 1 99) "java/lang/IllegalArgumentException"))) (by rw [hE]; simp [kC]) ?_
      exact hret _ _ _ _ dL_refill_16 (by rw [hE]; exact hP) (by rw [hE]; exact hD) hS
    ·
      refine vx_catch (E := "java/lang/IllegalArgumentException") (name := "java/lang/IllegalArgumentException") hown [⟨0, 10, 13, 55⟩] ⟨0, 10, 17, 19⟩ [] (by rw [htab]; rfl) (fun z hz => by obtain rfl := List.mem_singleton.mp hz; exact Or.inr ⟨by decide, "java/lang/IndexOutOfBoundsException", w1, hNC "java/lang/IllegalArgumentException" (by decide) "java/lang/IndexOutOfBoundsException" (by decide) (by decide)⟩) (by decide) (by decide) w2 (cast_self hC.2.2.2.2 "java/lang/IllegalArgumentException" (by decide)) hce hcv hcl ?_
      refine lv_astore (lv' := [(4, .ref (q9)), (0, .ref (v 0)), (1, .int (z)), (2, .int (z1)), (3, .ref (ob))]) hx hb dL_refill_17 hl (by decide) rfl (fun ls hl => ?_)
      refine lv_iconst (v := 2) hx hb dL_refill_19 (by decide) ?_
      refine endI (r := kC "java/lang/IndexOutOfBoundsException" (orE (chkB (inN z K) "java/lang/IndexOutOfBoundsException") (chkB (rg z1 1 99) "java/lang/IllegalArgumentException"))) (by rw [hE]; simp [kC]) ?_
      exact hret _ _ _ _ dL_refill_20 (by rw [hE]; exact hP) (by rw [hE]; exact hD) hS
  ·
    refine lv_i2l (v := (if (O 0) 3 z.toNatClampNeg + z1 < 99 then (O 0) 3 z.toNatClampNeg + z1 else 99).toInt64) hx hb dL_refill_8 rfl ?_
    refine va_last hx hb hK hP hD hS 0 3 rfl rfl (by unfold vp_in; decide) dL_refill_9 (fun H locs hP hD hS => ?_)
    rw [show (0 : Int32).toNatClampNeg = 0 from by decide] at hP hD
    have hP : va_P D vwCl (OUT T ob (vp_updL fo 0 (if (O 0) 3 z.toNatClampNeg + z1 < 99 then (O 0) 3 z.toNatClampNeg + z1 else 99).toInt64) :: WIN T v B (va_up (va_up O (3 + nx) (O 0)) 0 (va_up (O 0) 3 (va_up ((O 0) 3) z.toNatClampNeg (if (O 0) 3 z.toNatClampNeg + z1 < 99 then (O 0) 3 z.toNatClampNeg + z1 else 99)))) g ln (if un = 8 then 8 else un + 1) ((nx + 1) % 8) pl f0 f1 f2) H := hP
    have hD : va_D A (OUT T ob (vp_updL fo 0 (if (O 0) 3 z.toNatClampNeg + z1 < 99 then (O 0) 3 z.toNatClampNeg + z1 else 99).toInt64) :: WIN T v B (va_up (va_up O (3 + nx) (O 0)) 0 (va_up (O 0) 3 (va_up ((O 0) 3) z.toNatClampNeg (if (O 0) 3 z.toNatClampNeg + z1 < 99 then (O 0) 3 z.toNatClampNeg + z1 else 99)))) g ln (if un = 8 then 8 else un + 1) ((nx + 1) % 8) pl f0 f1 f2) := hD
    refine lv_goto (tgt := 21) hx hb dL_refill_10 (by decide) ?_
    refine lv_iconst (v := 0) hx hb dL_refill_21 (by decide) ?_
    refine endI (r := kC "java/lang/IndexOutOfBoundsException" (orE (chkB (inN z K) "java/lang/IndexOutOfBoundsException") (chkB (rg z1 1 99) "java/lang/IllegalArgumentException"))) (by rw [hE]; rfl) ?_
    exact hret _ _ _ _ dL_refill_22 (by rw [hE]; exact hP) (by rw [hE]; exact hD) hS

set_option maxHeartbeats 4000000 in
set_option maxRecDepth 100000 in
theorem c_L_restoreSnapshot (l : Launch) (hl9 : l.stackTraces = false) (D : va_G) (T : Nat → ClassId) (aK aV : Nat → Nat) (v : Nat → Nat) (B : Nat → Nat → Nat) (O : Nat → Nat → Nat → Int32) (g : CSt) (ln un nx pl : Nat) (f0 f1 f2 : Nat → Int32) (ob : Nat) (fo : Nat → Int64) (z : Int32)  (hu : un ≤ 8) (hnx : nx < 8) (sz : Nat) : Met l yL_restoreSnapshot wsL_restoreSnapshot ({ frames := 8, cells := 2, slots := 12, locals := 131 } : Room) (va_Pc [.ref (v 0), .int (z), .ref (ob)] (fun U => PSc D T aK aV (OUT T ob fo :: WIN T v B O g ln un nx pl f0 f1 f2) sz U ∧ NCX U)) (va_Qi (fun r9 (_ : Unit) => r9 = kC "java/lang/IndexOutOfBoundsException" (orE (chkB (inN z 2) "java/lang/IndexOutOfBoundsException") (chkB (!decide (f2 z.toNatClampNeg = 0)) "java/util/NoSuchElementException"))) (fun _ t => QS D T (va_A (OUT T ob fo :: WIN T v B O g ln un nx pl f0 f1 f2) sz) (wC (OUT T ob (vp_updL fo 0 ((O (11 + z.toNatClampNeg)) 0 0).toInt64) :: WIN T v B (va_up (va_up O (3 + nx) (O 0)) 0 (O (11 + z.toNatClampNeg))) g ln (if un = 8 then 8 else un + 1) ((nx + 1) % 8) pl f0 f1 f2) (OUT T ob fo :: WIN T v B O g ln un nx pl f0 f1 f2) (orE (chkB (inN z 2) "java/lang/IndexOutOfBoundsException") (chkB (!decide (f2 z.toNatClampNeg = 0)) "java/util/NoSuchElementException"))) t) (va_A (OUT T ob fo :: WIN T v B O g ln un nx pl f0 f1 f2) sz)) 2 12 (va_A (OUT T ob fo :: WIN T v B O g ln un nx pl f0 f1 f2) sz) := by
  have hcd : oneOf "java/lang/IndexOutOfBoundsException" "java/util/NoSuchElementException" (orE (chkB (inN z 2) "java/lang/IndexOutOfBoundsException") (chkB (!decide (f2 z.toNatClampNeg = 0)) "java/util/NoSuchElementException")) := oneOf_or (oneOf_chk (Or.inl rfl)) (oneOf_chk (Or.inr rfl))
  refine metLi (cc := cL_restoreSnapshot) (maxL := 4) (by decide) rfl (Nat.le_of_ble_eq_true rfl) ?_
  intro p e s m args below meth c Q ls A hx hb hml hown hts htab hNC hC hP hK hD hA hS hl hret
  have hown : s.vm.findClass RL = some m.cls := hown
  have hl : lv_has ls 4 [(0, .ref (v 0)), (1, .int (z)), (2, .ref (ob))] := hl
  have w1 := hts (Cond.classLink RL 55 "java/lang/IndexOutOfBoundsException") (List.mem_of_getElem? (i := 1) rfl)
  have w2 := hts (Cond.classLink RL 28 "java/util/NoSuchElementException") (List.mem_of_getElem? (i := 2) rfl)
  refine lv_aload_n hx hb dL_restoreSnapshot_0 rfl (lv_at hl 2 rfl) ?_
  refine lv_iconst (v := 0) hx hb dL_restoreSnapshot_1 (by decide) ?_
  refine lv_aload_n hx hb dL_restoreSnapshot_2 rfl (lv_at hl 0 rfl) ?_
  refine lv_iload_n hx hb dL_restoreSnapshot_3 rfl (lv_at hl 1 rfl) ?_
  refine wxVi (As := [.int (z)]) (rest := [.int 0, .ref (ob)]) ⟨hx, hb, hml, hown, hts⟩ (c_X9_restoreSnapshot l hl9 D T aK aV v B O g ln un nx pl f0 f1 f2 z hu hnx _) (cwV 1 hts gL_restoreSnapshot_X9_restoreSnapshot rfl rfl rfl (by decide +kernel) ⟨Nat.le_of_ble_eq_true rfl, Nat.le_of_ble_eq_true rfl⟩) (Foc.cons (OUT T ob fo) _ _) (Foc.cons (OUT T ob fo) _ _) hC hK hP hD hS hA 0 rfl rfl rfl hl.1 rfl (Nat.le_of_ble_eq_true rfl) ⟨Nat.le_of_ble_eq_true rfl, Nat.le_of_ble_eq_true rfl⟩ dL_restoreSnapshot_4 (fun E ce q9 H locs hE hP hD hS hce hcv hcl => ?_) (fun H locs hE hP hD hS => ?_)
  ·
    rcases hcd E hE with rfl | rfl
    ·
      refine vx_catch (E := "java/lang/IndexOutOfBoundsException") (name := "java/lang/IndexOutOfBoundsException") hown [] ⟨0, 9, 12, 55⟩ [⟨0, 9, 15, 28⟩] (by rw [htab]; rfl) (fun z hz => absurd hz List.not_mem_nil) (by decide) (by decide) w1 (cast_self hC.2.2.2.2 "java/lang/IndexOutOfBoundsException" (by decide)) hce hcv hcl ?_
      refine lv_astore_n (lv' := [(3, .ref (q9)), (0, .ref (v 0)), (1, .int (z)), (2, .ref (ob))]) hx hb dL_restoreSnapshot_12 rfl hl (by decide) rfl (fun ls hl => ?_)
      refine lv_iconst (v := 1) hx hb dL_restoreSnapshot_13 (by decide) ?_
      refine endI (r := kC "java/lang/IndexOutOfBoundsException" (orE (chkB (inN z 2) "java/lang/IndexOutOfBoundsException") (chkB (!decide (f2 z.toNatClampNeg = 0)) "java/util/NoSuchElementException"))) (by rw [hE]; simp [kC]) ?_
      exact hret _ _ _ _ dL_restoreSnapshot_14 (by rw [hE]; exact hP) (by rw [hE]; exact hD) hS
    ·
      refine vx_catch (E := "java/util/NoSuchElementException") (name := "java/util/NoSuchElementException") hown [⟨0, 9, 12, 55⟩] ⟨0, 9, 15, 28⟩ [] (by rw [htab]; rfl) (fun z hz => by obtain rfl := List.mem_singleton.mp hz; exact Or.inr ⟨by decide, "java/lang/IndexOutOfBoundsException", w1, hNC "java/util/NoSuchElementException" (by decide) "java/lang/IndexOutOfBoundsException" (by decide) (by decide)⟩) (by decide) (by decide) w2 (cast_self hC.2.2.2.2 "java/util/NoSuchElementException" (by decide)) hce hcv hcl ?_
      refine lv_astore_n (lv' := [(3, .ref (q9)), (0, .ref (v 0)), (1, .int (z)), (2, .ref (ob))]) hx hb dL_restoreSnapshot_15 rfl hl (by decide) rfl (fun ls hl => ?_)
      refine lv_iconst (v := 2) hx hb dL_restoreSnapshot_16 (by decide) ?_
      refine endI (r := kC "java/lang/IndexOutOfBoundsException" (orE (chkB (inN z 2) "java/lang/IndexOutOfBoundsException") (chkB (!decide (f2 z.toNatClampNeg = 0)) "java/util/NoSuchElementException"))) (by rw [hE]; simp [kC]) ?_
      exact hret _ _ _ _ dL_restoreSnapshot_17 (by rw [hE]; exact hP) (by rw [hE]; exact hD) hS
  ·
    refine lv_i2l (v := ((O (11 + z.toNatClampNeg)) 0 0).toInt64) hx hb dL_restoreSnapshot_7 rfl ?_
    refine va_last hx hb hK hP hD hS 0 3 rfl rfl (by unfold vp_in; decide) dL_restoreSnapshot_8 (fun H locs hP hD hS => ?_)
    rw [show (0 : Int32).toNatClampNeg = 0 from by decide] at hP hD
    have hP : va_P D vwCl (OUT T ob (vp_updL fo 0 ((O (11 + z.toNatClampNeg)) 0 0).toInt64) :: WIN T v B (va_up (va_up O (3 + nx) (O 0)) 0 (O (11 + z.toNatClampNeg))) g ln (if un = 8 then 8 else un + 1) ((nx + 1) % 8) pl f0 f1 f2) H := hP
    have hD : va_D A (OUT T ob (vp_updL fo 0 ((O (11 + z.toNatClampNeg)) 0 0).toInt64) :: WIN T v B (va_up (va_up O (3 + nx) (O 0)) 0 (O (11 + z.toNatClampNeg))) g ln (if un = 8 then 8 else un + 1) ((nx + 1) % 8) pl f0 f1 f2) := hD
    refine lv_goto (tgt := 18) hx hb dL_restoreSnapshot_9 (by decide) ?_
    refine lv_iconst (v := 0) hx hb dL_restoreSnapshot_18 (by decide) ?_
    refine endI (r := kC "java/lang/IndexOutOfBoundsException" (orE (chkB (inN z 2) "java/lang/IndexOutOfBoundsException") (chkB (!decide (f2 z.toNatClampNeg = 0)) "java/util/NoSuchElementException"))) (by rw [hE]; rfl) ?_
    exact hret _ _ _ _ dL_restoreSnapshot_19 (by rw [hE]; exact hP) (by rw [hE]; exact hD) hS

set_option maxHeartbeats 4000000 in
set_option maxRecDepth 100000 in
theorem c_L_saveSnapshot (l : Launch) (hl9 : l.stackTraces = false) (D : va_G) (T : Nat → ClassId) (aK aV : Nat → Nat) (v : Nat → Nat) (B : Nat → Nat → Nat) (O : Nat → Nat → Nat → Int32) (g : CSt) (ln un nx pl : Nat) (f0 f1 f2 : Nat → Int32) (ob : Nat) (fo : Nat → Int64) (z : Int32)  (sz : Nat) : Met l yL_saveSnapshot wsL_saveSnapshot ({ frames := 8, cells := 1, slots := 6, locals := 131 } : Room) (va_Pc [.ref (v 0), .int (z), .ref (ob)] (fun U => PSc D T aK aV (OUT T ob fo :: WIN T v B O g ln un nx pl f0 f1 f2) sz U ∧ NCX U)) (va_Qi (fun r9 (_ : Unit) => r9 = kC "java/lang/IndexOutOfBoundsException" (chkB (inN z 2) "java/lang/IndexOutOfBoundsException")) (fun _ t => QS D T (va_A (OUT T ob fo :: WIN T v B O g ln un nx pl f0 f1 f2) sz) (wC (OUT T ob (vp_updL fo 0 ((O 0) 0 0).toInt64) :: WIN T v B (va_up O (11 + z.toNatClampNeg) (O 0)) g ln un nx pl f0 f1 (va_up f2 z.toNatClampNeg 1)) (OUT T ob fo :: WIN T v B O g ln un nx pl f0 f1 f2) (chkB (inN z 2) "java/lang/IndexOutOfBoundsException")) t) (va_A (OUT T ob fo :: WIN T v B O g ln un nx pl f0 f1 f2) sz)) 1 6 (va_A (OUT T ob fo :: WIN T v B O g ln un nx pl f0 f1 f2) sz) := by
  have hcd : oneOf "java/lang/IndexOutOfBoundsException" "java/lang/IndexOutOfBoundsException" (chkB (inN z 2) "java/lang/IndexOutOfBoundsException") := oneOf_chk (Or.inl rfl)
  refine metLi (cc := cL_saveSnapshot) (maxL := 4) (by decide) rfl (Nat.le_of_ble_eq_true rfl) ?_
  intro p e s m args below meth c Q ls A hx hb hml hown hts htab hNC hC hP hK hD hA hS hl hret
  have hown : s.vm.findClass RL = some m.cls := hown
  have hl : lv_has ls 4 [(0, .ref (v 0)), (1, .int (z)), (2, .ref (ob))] := hl
  have w1 := hts (Cond.classLink RL 55 "java/lang/IndexOutOfBoundsException") (List.mem_of_getElem? (i := 1) rfl)
  refine lv_aload_n hx hb dL_saveSnapshot_0 rfl (lv_at hl 2 rfl) ?_
  refine lv_iconst (v := 0) hx hb dL_saveSnapshot_1 (by decide) ?_
  refine lv_aload_n hx hb dL_saveSnapshot_2 rfl (lv_at hl 0 rfl) ?_
  refine lv_iload_n hx hb dL_saveSnapshot_3 rfl (lv_at hl 1 rfl) ?_
  refine wxVi (As := [.int (z)]) (rest := [.int 0, .ref (ob)]) ⟨hx, hb, hml, hown, hts⟩ (c_X9_saveSnapshot l hl9 D T aK aV v B O g ln un nx pl f0 f1 f2 z _) (cwV 1 hts gL_saveSnapshot_X9_saveSnapshot rfl rfl rfl (by decide +kernel) ⟨Nat.le_of_ble_eq_true rfl, Nat.le_of_ble_eq_true rfl⟩) (Foc.cons (OUT T ob fo) _ _) (Foc.cons (OUT T ob fo) _ _) hC hK hP hD hS hA 0 rfl rfl rfl hl.1 rfl (Nat.le_of_ble_eq_true rfl) ⟨Nat.le_of_ble_eq_true rfl, Nat.le_of_ble_eq_true rfl⟩ dL_saveSnapshot_4 (fun E ce q9 H locs hE hP hD hS hce hcv hcl => ?_) (fun H locs hE hP hD hS => ?_)
  ·
    obtain rfl : E = "java/lang/IndexOutOfBoundsException" := (hcd E hE).elim id id
    refine vx_catch (E := "java/lang/IndexOutOfBoundsException") (name := "java/lang/IndexOutOfBoundsException") hown [] ⟨0, 9, 12, 55⟩ [] (by rw [htab]; rfl) (fun z hz => absurd hz List.not_mem_nil) (by decide) (by decide) w1 (cast_self hC.2.2.2.2 "java/lang/IndexOutOfBoundsException" (by decide)) hce hcv hcl ?_
    refine lv_astore_n (lv' := [(3, .ref (q9)), (0, .ref (v 0)), (1, .int (z)), (2, .ref (ob))]) hx hb dL_saveSnapshot_12 rfl hl (by decide) rfl (fun ls hl => ?_)
    refine lv_iconst (v := 1) hx hb dL_saveSnapshot_13 (by decide) ?_
    refine endI (r := kC "java/lang/IndexOutOfBoundsException" (chkB (inN z 2) "java/lang/IndexOutOfBoundsException")) (by rw [hE]; simp [kC]) ?_
    exact hret _ _ _ _ dL_saveSnapshot_14 (by rw [hE]; exact hP) (by rw [hE]; exact hD) hS
  ·
    refine lv_i2l (v := ((O 0) 0 0).toInt64) hx hb dL_saveSnapshot_7 rfl ?_
    refine va_last hx hb hK hP hD hS 0 3 rfl rfl (by unfold vp_in; decide) dL_saveSnapshot_8 (fun H locs hP hD hS => ?_)
    rw [show (0 : Int32).toNatClampNeg = 0 from by decide] at hP hD
    have hP : va_P D vwCl (OUT T ob (vp_updL fo 0 ((O 0) 0 0).toInt64) :: WIN T v B (va_up O (11 + z.toNatClampNeg) (O 0)) g ln un nx pl f0 f1 (va_up f2 z.toNatClampNeg 1)) H := hP
    have hD : va_D A (OUT T ob (vp_updL fo 0 ((O 0) 0 0).toInt64) :: WIN T v B (va_up O (11 + z.toNatClampNeg) (O 0)) g ln un nx pl f0 f1 (va_up f2 z.toNatClampNeg 1)) := hD
    refine lv_goto (tgt := 15) hx hb dL_saveSnapshot_9 (by decide) ?_
    refine lv_iconst (v := 0) hx hb dL_saveSnapshot_15 (by decide) ?_
    refine endI (r := kC "java/lang/IndexOutOfBoundsException" (chkB (inN z 2) "java/lang/IndexOutOfBoundsException")) (by rw [hE]; rfl) ?_
    exact hret _ _ _ _ dL_saveSnapshot_16 (by rw [hE]; exact hP) (by rw [hE]; exact hD) hS

set_option maxHeartbeats 4000000 in
set_option maxRecDepth 100000 in
theorem c_L_setCloud (l : Launch) (hl9 : l.stackTraces = false) (D : va_G) (T : Nat → ClassId) (aK aV : Nat → Nat) (v : Nat → Nat) (B : Nat → Nat → Nat) (O : Nat → Nat → Nat → Int32) (g : CSt) (ln un nx pl : Nat) (f0 f1 f2 : Nat → Int32) (ob : Nat) (fo : Nat → Int64) (z : Int32) (z1 : Int32) (N : Nat) (K : Nat) (C : Nat) (nt : Nat) (hOI : OI (O 0) N K C nt) (hu : un ≤ 8) (hnx : nx < 8) (sz : Nat) : Met l yL_setCloud wsL_setCloud ({ frames := 8, cells := 1, slots := 6, locals := 135 } : Room) (va_Pc [.ref (v 0), .int (z), .int (z1), .ref (ob)] (fun U => PSc D T aK aV (OUT T ob fo :: WIN T v B O g ln un nx pl f0 f1 f2) sz U ∧ NCX U)) (va_Qi (fun r9 (_ : Unit) => r9 = kC "java/lang/IndexOutOfBoundsException" (orE (chkB (inN z C) "java/lang/IndexOutOfBoundsException") (chkB (rg z1 0 9) "java/lang/IllegalArgumentException"))) (fun _ t => QS D T (va_A (OUT T ob fo :: WIN T v B O g ln un nx pl f0 f1 f2) sz) (wC (OUT T ob (vp_updL fo 0 ((O 0) 1 z.toNatClampNeg).toInt64) :: WIN T v B (va_up (va_up O (3 + nx) (O 0)) 0 (va_up (O 0) 1 (va_up ((O 0) 1) z.toNatClampNeg z1))) g ln (if un = 8 then 8 else un + 1) ((nx + 1) % 8) pl f0 f1 f2) (OUT T ob fo :: WIN T v B O g ln un nx pl f0 f1 f2) (orE (chkB (inN z C) "java/lang/IndexOutOfBoundsException") (chkB (rg z1 0 9) "java/lang/IllegalArgumentException"))) t) (va_A (OUT T ob fo :: WIN T v B O g ln un nx pl f0 f1 f2) sz)) 1 6 (va_A (OUT T ob fo :: WIN T v B O g ln un nx pl f0 f1 f2) sz) := by
  have hcd : oneOf "java/lang/IndexOutOfBoundsException" "java/lang/IllegalArgumentException" (orE (chkB (inN z C) "java/lang/IndexOutOfBoundsException") (chkB (rg z1 0 9) "java/lang/IllegalArgumentException")) := oneOf_or (oneOf_chk (Or.inl rfl)) (oneOf_chk (Or.inr rfl))
  refine metLi (cc := cL_setCloud) (maxL := 5) (by decide) rfl (Nat.le_of_ble_eq_true rfl) ?_
  intro p e s m args below meth c Q ls A hx hb hml hown hts htab hNC hC hP hK hD hA hS hl hret
  have hown : s.vm.findClass RL = some m.cls := hown
  have hl : lv_has ls 5 [(0, .ref (v 0)), (1, .int (z)), (2, .int (z1)), (3, .ref (ob))] := hl
  have w1 := hts (Cond.classLink RL 55 "java/lang/IndexOutOfBoundsException") (List.mem_of_getElem? (i := 1) rfl)
  have w2 := hts (Cond.classLink RL 19 "java/lang/IllegalArgumentException") (List.mem_of_getElem? (i := 2) rfl)
  refine lv_aload_n hx hb dL_setCloud_0 rfl (lv_at hl 3 rfl) ?_
  refine lv_iconst (v := 0) hx hb dL_setCloud_1 (by decide) ?_
  refine lv_aload_n hx hb dL_setCloud_2 rfl (lv_at hl 0 rfl) ?_
  refine lv_iload_n hx hb dL_setCloud_3 rfl (lv_at hl 1 rfl) ?_
  refine lv_iload_n hx hb dL_setCloud_4 rfl (lv_at hl 2 rfl) ?_
  refine wxVi (As := [.int (z), .int (z1)]) (rest := [.int 0, .ref (ob)]) ⟨hx, hb, hml, hown, hts⟩ (c_X9_setCloud l hl9 D T aK aV v B O g ln un nx pl f0 f1 f2 z z1 N K C nt hOI hu hnx _) (cwV 2 hts gL_setCloud_X9_setCloud rfl rfl rfl (by decide +kernel) ⟨Nat.le_of_ble_eq_true rfl, Nat.le_of_ble_eq_true rfl⟩) (Foc.cons (OUT T ob fo) _ _) (Foc.cons (OUT T ob fo) _ _) hC hK hP hD hS hA 0 rfl rfl rfl hl.1 rfl (Nat.le_of_ble_eq_true rfl) ⟨Nat.le_of_ble_eq_true rfl, Nat.le_of_ble_eq_true rfl⟩ dL_setCloud_5 (fun E ce q9 H locs hE hP hD hS hce hcv hcl => ?_) (fun H locs hE hP hD hS => ?_)
  ·
    rcases hcd E hE with rfl | rfl
    ·
      refine vx_catch (E := "java/lang/IndexOutOfBoundsException") (name := "java/lang/IndexOutOfBoundsException") hown [] ⟨0, 10, 13, 55⟩ [⟨0, 10, 17, 19⟩] (by rw [htab]; rfl) (fun z hz => absurd hz List.not_mem_nil) (by decide) (by decide) w1 (cast_self hC.2.2.2.2 "java/lang/IndexOutOfBoundsException" (by decide)) hce hcv hcl ?_
      refine lv_astore (lv' := [(4, .ref (q9)), (0, .ref (v 0)), (1, .int (z)), (2, .int (z1)), (3, .ref (ob))]) hx hb dL_setCloud_13 hl (by decide) rfl (fun ls hl => ?_)
      refine lv_iconst (v := 1) hx hb dL_setCloud_15 (by decide) ?_
      refine endI (r := kC "java/lang/IndexOutOfBoundsException" (orE (chkB (inN z C) "java/lang/IndexOutOfBoundsException") (chkB (rg z1 0 9) "java/lang/IllegalArgumentException"))) (by rw [hE]; simp [kC]) ?_
      exact hret _ _ _ _ dL_setCloud_16 (by rw [hE]; exact hP) (by rw [hE]; exact hD) hS
    ·
      refine vx_catch (E := "java/lang/IllegalArgumentException") (name := "java/lang/IllegalArgumentException") hown [⟨0, 10, 13, 55⟩] ⟨0, 10, 17, 19⟩ [] (by rw [htab]; rfl) (fun z hz => by obtain rfl := List.mem_singleton.mp hz; exact Or.inr ⟨by decide, "java/lang/IndexOutOfBoundsException", w1, hNC "java/lang/IllegalArgumentException" (by decide) "java/lang/IndexOutOfBoundsException" (by decide) (by decide)⟩) (by decide) (by decide) w2 (cast_self hC.2.2.2.2 "java/lang/IllegalArgumentException" (by decide)) hce hcv hcl ?_
      refine lv_astore (lv' := [(4, .ref (q9)), (0, .ref (v 0)), (1, .int (z)), (2, .int (z1)), (3, .ref (ob))]) hx hb dL_setCloud_17 hl (by decide) rfl (fun ls hl => ?_)
      refine lv_iconst (v := 2) hx hb dL_setCloud_19 (by decide) ?_
      refine endI (r := kC "java/lang/IndexOutOfBoundsException" (orE (chkB (inN z C) "java/lang/IndexOutOfBoundsException") (chkB (rg z1 0 9) "java/lang/IllegalArgumentException"))) (by rw [hE]; simp [kC]) ?_
      exact hret _ _ _ _ dL_setCloud_20 (by rw [hE]; exact hP) (by rw [hE]; exact hD) hS
  ·
    refine lv_i2l (v := ((O 0) 1 z.toNatClampNeg).toInt64) hx hb dL_setCloud_8 rfl ?_
    refine va_last hx hb hK hP hD hS 0 3 rfl rfl (by unfold vp_in; decide) dL_setCloud_9 (fun H locs hP hD hS => ?_)
    rw [show (0 : Int32).toNatClampNeg = 0 from by decide] at hP hD
    have hP : va_P D vwCl (OUT T ob (vp_updL fo 0 ((O 0) 1 z.toNatClampNeg).toInt64) :: WIN T v B (va_up (va_up O (3 + nx) (O 0)) 0 (va_up (O 0) 1 (va_up ((O 0) 1) z.toNatClampNeg z1))) g ln (if un = 8 then 8 else un + 1) ((nx + 1) % 8) pl f0 f1 f2) H := hP
    have hD : va_D A (OUT T ob (vp_updL fo 0 ((O 0) 1 z.toNatClampNeg).toInt64) :: WIN T v B (va_up (va_up O (3 + nx) (O 0)) 0 (va_up (O 0) 1 (va_up ((O 0) 1) z.toNatClampNeg z1))) g ln (if un = 8 then 8 else un + 1) ((nx + 1) % 8) pl f0 f1 f2) := hD
    refine lv_goto (tgt := 21) hx hb dL_setCloud_10 (by decide) ?_
    refine lv_iconst (v := 0) hx hb dL_setCloud_21 (by decide) ?_
    refine endI (r := kC "java/lang/IndexOutOfBoundsException" (orE (chkB (inN z C) "java/lang/IndexOutOfBoundsException") (chkB (rg z1 0 9) "java/lang/IllegalArgumentException"))) (by rw [hE]; rfl) ?_
    exact hret _ _ _ _ dL_setCloud_22 (by rw [hE]; exact hP) (by rw [hE]; exact hD) hS

set_option maxHeartbeats 4000000 in
set_option maxRecDepth 100000 in
theorem c_L_setGlareLimit (l : Launch) (hl9 : l.stackTraces = false) (D : va_G) (T : Nat → ClassId) (aK aV : Nat → Nat) (v : Nat → Nat) (B : Nat → Nat → Nat) (O : Nat → Nat → Nat → Int32) (g : CSt) (ln un nx pl : Nat) (f0 f1 f2 : Nat → Int32) (ob : Nat) (fo : Nat → Int64) (z : Int32) (N : Nat) (K : Nat) (C : Nat) (nt : Nat) (hOI : OI (O 0) N K C nt) (hu : un ≤ 8) (hnx : nx < 8) (sz : Nat) : Met l yL_setGlareLimit wsL_setGlareLimit ({ frames := 8, cells := 1, slots := 6, locals := 134 } : Room) (va_Pc [.ref (v 0), .int (z), .ref (ob)] (fun U => PSc D T aK aV (OUT T ob fo :: WIN T v B O g ln un nx pl f0 f1 f2) sz U ∧ NCX U)) (va_Qi (fun r9 (_ : Unit) => r9 = kC "java/lang/IllegalArgumentException" (chkB (rg z 1 14) "java/lang/IllegalArgumentException")) (fun _ t => QS D T (va_A (OUT T ob fo :: WIN T v B O g ln un nx pl f0 f1 f2) sz) (wC (OUT T ob (vp_updL fo 0 ((O 0) 0 1).toInt64) :: WIN T v B (va_up (va_up O (3 + nx) (O 0)) 0 (dS (O 0) 1 z)) g ln (if un = 8 then 8 else un + 1) ((nx + 1) % 8) pl f0 f1 f2) (OUT T ob fo :: WIN T v B O g ln un nx pl f0 f1 f2) (chkB (rg z 1 14) "java/lang/IllegalArgumentException")) t) (va_A (OUT T ob fo :: WIN T v B O g ln un nx pl f0 f1 f2) sz)) 1 6 (va_A (OUT T ob fo :: WIN T v B O g ln un nx pl f0 f1 f2) sz) := by
  have hcd : oneOf "java/lang/IllegalArgumentException" "java/lang/IllegalArgumentException" (chkB (rg z 1 14) "java/lang/IllegalArgumentException") := oneOf_chk (Or.inl rfl)
  refine metLi (cc := cL_setGlareLimit) (maxL := 4) (by decide) rfl (Nat.le_of_ble_eq_true rfl) ?_
  intro p e s m args below meth c Q ls A hx hb hml hown hts htab hNC hC hP hK hD hA hS hl hret
  have hown : s.vm.findClass RL = some m.cls := hown
  have hl : lv_has ls 4 [(0, .ref (v 0)), (1, .int (z)), (2, .ref (ob))] := hl
  have w1 := hts (Cond.classLink RL 19 "java/lang/IllegalArgumentException") (List.mem_of_getElem? (i := 1) rfl)
  refine lv_aload_n hx hb dL_setGlareLimit_0 rfl (lv_at hl 2 rfl) ?_
  refine lv_iconst (v := 0) hx hb dL_setGlareLimit_1 (by decide) ?_
  refine lv_aload_n hx hb dL_setGlareLimit_2 rfl (lv_at hl 0 rfl) ?_
  refine lv_iload_n hx hb dL_setGlareLimit_3 rfl (lv_at hl 1 rfl) ?_
  refine wxVi (As := [.int (z)]) (rest := [.int 0, .ref (ob)]) ⟨hx, hb, hml, hown, hts⟩ (c_X9_setGlareLimit l hl9 D T aK aV v B O g ln un nx pl f0 f1 f2 z N K C nt hOI hu hnx _) (cwV 1 hts gL_setGlareLimit_X9_setGlareLimit rfl rfl rfl (by decide +kernel) ⟨Nat.le_of_ble_eq_true rfl, Nat.le_of_ble_eq_true rfl⟩) (Foc.cons (OUT T ob fo) _ _) (Foc.cons (OUT T ob fo) _ _) hC hK hP hD hS hA 0 rfl rfl rfl hl.1 rfl (Nat.le_of_ble_eq_true rfl) ⟨Nat.le_of_ble_eq_true rfl, Nat.le_of_ble_eq_true rfl⟩ dL_setGlareLimit_4 (fun E ce q9 H locs hE hP hD hS hce hcv hcl => ?_) (fun H locs hE hP hD hS => ?_)
  ·
    obtain rfl : E = "java/lang/IllegalArgumentException" := (hcd E hE).elim id id
    refine vx_catch (E := "java/lang/IllegalArgumentException") (name := "java/lang/IllegalArgumentException") hown [] ⟨0, 9, 12, 19⟩ [] (by rw [htab]; rfl) (fun z hz => absurd hz List.not_mem_nil) (by decide) (by decide) w1 (cast_self hC.2.2.2.2 "java/lang/IllegalArgumentException" (by decide)) hce hcv hcl ?_
    refine lv_astore_n (lv' := [(3, .ref (q9)), (0, .ref (v 0)), (1, .int (z)), (2, .ref (ob))]) hx hb dL_setGlareLimit_12 rfl hl (by decide) rfl (fun ls hl => ?_)
    refine lv_iconst (v := 1) hx hb dL_setGlareLimit_13 (by decide) ?_
    refine endI (r := kC "java/lang/IllegalArgumentException" (chkB (rg z 1 14) "java/lang/IllegalArgumentException")) (by rw [hE]; simp [kC]) ?_
    exact hret _ _ _ _ dL_setGlareLimit_14 (by rw [hE]; exact hP) (by rw [hE]; exact hD) hS
  ·
    refine lv_i2l (v := ((O 0) 0 1).toInt64) hx hb dL_setGlareLimit_7 rfl ?_
    refine va_last hx hb hK hP hD hS 0 3 rfl rfl (by unfold vp_in; decide) dL_setGlareLimit_8 (fun H locs hP hD hS => ?_)
    rw [show (0 : Int32).toNatClampNeg = 0 from by decide] at hP hD
    have hP : va_P D vwCl (OUT T ob (vp_updL fo 0 ((O 0) 0 1).toInt64) :: WIN T v B (va_up (va_up O (3 + nx) (O 0)) 0 (dS (O 0) 1 z)) g ln (if un = 8 then 8 else un + 1) ((nx + 1) % 8) pl f0 f1 f2) H := hP
    have hD : va_D A (OUT T ob (vp_updL fo 0 ((O 0) 0 1).toInt64) :: WIN T v B (va_up (va_up O (3 + nx) (O 0)) 0 (dS (O 0) 1 z)) g ln (if un = 8 then 8 else un + 1) ((nx + 1) % 8) pl f0 f1 f2) := hD
    refine lv_goto (tgt := 15) hx hb dL_setGlareLimit_9 (by decide) ?_
    refine lv_iconst (v := 0) hx hb dL_setGlareLimit_15 (by decide) ?_
    refine endI (r := kC "java/lang/IllegalArgumentException" (chkB (rg z 1 14) "java/lang/IllegalArgumentException")) (by rw [hE]; rfl) ?_
    exact hret _ _ _ _ dL_setGlareLimit_16 (by rw [hE]; exact hP) (by rw [hE]; exact hD) hS

set_option maxHeartbeats 4000000 in
set_option maxRecDepth 100000 in
theorem c_L_setGloomLimit (l : Launch) (hl9 : l.stackTraces = false) (D : va_G) (T : Nat → ClassId) (aK aV : Nat → Nat) (v : Nat → Nat) (B : Nat → Nat → Nat) (O : Nat → Nat → Nat → Int32) (g : CSt) (ln un nx pl : Nat) (f0 f1 f2 : Nat → Int32) (ob : Nat) (fo : Nat → Int64) (z : Int32) (N : Nat) (K : Nat) (C : Nat) (nt : Nat) (hOI : OI (O 0) N K C nt) (hu : un ≤ 8) (hnx : nx < 8) (sz : Nat) : Met l yL_setGloomLimit wsL_setGloomLimit ({ frames := 8, cells := 1, slots := 6, locals := 134 } : Room) (va_Pc [.ref (v 0), .int (z), .ref (ob)] (fun U => PSc D T aK aV (OUT T ob fo :: WIN T v B O g ln un nx pl f0 f1 f2) sz U ∧ NCX U)) (va_Qi (fun r9 (_ : Unit) => r9 = kC "java/lang/IllegalArgumentException" (chkB (rg z 0 13) "java/lang/IllegalArgumentException")) (fun _ t => QS D T (va_A (OUT T ob fo :: WIN T v B O g ln un nx pl f0 f1 f2) sz) (wC (OUT T ob (vp_updL fo 0 ((O 0) 0 2).toInt64) :: WIN T v B (va_up (va_up O (3 + nx) (O 0)) 0 (dS (O 0) 2 z)) g ln (if un = 8 then 8 else un + 1) ((nx + 1) % 8) pl f0 f1 f2) (OUT T ob fo :: WIN T v B O g ln un nx pl f0 f1 f2) (chkB (rg z 0 13) "java/lang/IllegalArgumentException")) t) (va_A (OUT T ob fo :: WIN T v B O g ln un nx pl f0 f1 f2) sz)) 1 6 (va_A (OUT T ob fo :: WIN T v B O g ln un nx pl f0 f1 f2) sz) := by
  have hcd : oneOf "java/lang/IllegalArgumentException" "java/lang/IllegalArgumentException" (chkB (rg z 0 13) "java/lang/IllegalArgumentException") := oneOf_chk (Or.inl rfl)
  refine metLi (cc := cL_setGloomLimit) (maxL := 4) (by decide) rfl (Nat.le_of_ble_eq_true rfl) ?_
  intro p e s m args below meth c Q ls A hx hb hml hown hts htab hNC hC hP hK hD hA hS hl hret
  have hown : s.vm.findClass RL = some m.cls := hown
  have hl : lv_has ls 4 [(0, .ref (v 0)), (1, .int (z)), (2, .ref (ob))] := hl
  have w1 := hts (Cond.classLink RL 19 "java/lang/IllegalArgumentException") (List.mem_of_getElem? (i := 1) rfl)
  refine lv_aload_n hx hb dL_setGloomLimit_0 rfl (lv_at hl 2 rfl) ?_
  refine lv_iconst (v := 0) hx hb dL_setGloomLimit_1 (by decide) ?_
  refine lv_aload_n hx hb dL_setGloomLimit_2 rfl (lv_at hl 0 rfl) ?_
  refine lv_iload_n hx hb dL_setGloomLimit_3 rfl (lv_at hl 1 rfl) ?_
  refine wxVi (As := [.int (z)]) (rest := [.int 0, .ref (ob)]) ⟨hx, hb, hml, hown, hts⟩ (c_X9_setGloomLimit l hl9 D T aK aV v B O g ln un nx pl f0 f1 f2 z N K C nt hOI hu hnx _) (cwV 1 hts gL_setGloomLimit_X9_setGloomLimit rfl rfl rfl (by decide +kernel) ⟨Nat.le_of_ble_eq_true rfl, Nat.le_of_ble_eq_true rfl⟩) (Foc.cons (OUT T ob fo) _ _) (Foc.cons (OUT T ob fo) _ _) hC hK hP hD hS hA 0 rfl rfl rfl hl.1 rfl (Nat.le_of_ble_eq_true rfl) ⟨Nat.le_of_ble_eq_true rfl, Nat.le_of_ble_eq_true rfl⟩ dL_setGloomLimit_4 (fun E ce q9 H locs hE hP hD hS hce hcv hcl => ?_) (fun H locs hE hP hD hS => ?_)
  ·
    obtain rfl : E = "java/lang/IllegalArgumentException" := (hcd E hE).elim id id
    refine vx_catch (E := "java/lang/IllegalArgumentException") (name := "java/lang/IllegalArgumentException") hown [] ⟨0, 9, 12, 19⟩ [] (by rw [htab]; rfl) (fun z hz => absurd hz List.not_mem_nil) (by decide) (by decide) w1 (cast_self hC.2.2.2.2 "java/lang/IllegalArgumentException" (by decide)) hce hcv hcl ?_
    refine lv_astore_n (lv' := [(3, .ref (q9)), (0, .ref (v 0)), (1, .int (z)), (2, .ref (ob))]) hx hb dL_setGloomLimit_12 rfl hl (by decide) rfl (fun ls hl => ?_)
    refine lv_iconst (v := 1) hx hb dL_setGloomLimit_13 (by decide) ?_
    refine endI (r := kC "java/lang/IllegalArgumentException" (chkB (rg z 0 13) "java/lang/IllegalArgumentException")) (by rw [hE]; simp [kC]) ?_
    exact hret _ _ _ _ dL_setGloomLimit_14 (by rw [hE]; exact hP) (by rw [hE]; exact hD) hS
  ·
    refine lv_i2l (v := ((O 0) 0 2).toInt64) hx hb dL_setGloomLimit_7 rfl ?_
    refine va_last hx hb hK hP hD hS 0 3 rfl rfl (by unfold vp_in; decide) dL_setGloomLimit_8 (fun H locs hP hD hS => ?_)
    rw [show (0 : Int32).toNatClampNeg = 0 from by decide] at hP hD
    have hP : va_P D vwCl (OUT T ob (vp_updL fo 0 ((O 0) 0 2).toInt64) :: WIN T v B (va_up (va_up O (3 + nx) (O 0)) 0 (dS (O 0) 2 z)) g ln (if un = 8 then 8 else un + 1) ((nx + 1) % 8) pl f0 f1 f2) H := hP
    have hD : va_D A (OUT T ob (vp_updL fo 0 ((O 0) 0 2).toInt64) :: WIN T v B (va_up (va_up O (3 + nx) (O 0)) 0 (dS (O 0) 2 z)) g ln (if un = 8 then 8 else un + 1) ((nx + 1) % 8) pl f0 f1 f2) := hD
    refine lv_goto (tgt := 15) hx hb dL_setGloomLimit_9 (by decide) ?_
    refine lv_iconst (v := 0) hx hb dL_setGloomLimit_15 (by decide) ?_
    refine endI (r := kC "java/lang/IllegalArgumentException" (chkB (rg z 0 13) "java/lang/IllegalArgumentException")) (by rw [hE]; rfl) ?_
    exact hret _ _ _ _ dL_setGloomLimit_16 (by rw [hE]; exact hP) (by rw [hE]; exact hD) hS

set_option maxHeartbeats 4000000 in
set_option maxRecDepth 100000 in
theorem c_L_setTideLimit (l : Launch) (hl9 : l.stackTraces = false) (D : va_G) (T : Nat → ClassId) (aK aV : Nat → Nat) (v : Nat → Nat) (B : Nat → Nat → Nat) (O : Nat → Nat → Nat → Int32) (g : CSt) (ln un nx pl : Nat) (f0 f1 f2 : Nat → Int32) (ob : Nat) (fo : Nat → Int64) (z : Int32) (N : Nat) (K : Nat) (C : Nat) (nt : Nat) (hOI : OI (O 0) N K C nt) (hu : un ≤ 8) (hnx : nx < 8) (sz : Nat) : Met l yL_setTideLimit wsL_setTideLimit ({ frames := 8, cells := 1, slots := 6, locals := 134 } : Room) (va_Pc [.ref (v 0), .int (z), .ref (ob)] (fun U => PSc D T aK aV (OUT T ob fo :: WIN T v B O g ln un nx pl f0 f1 f2) sz U ∧ NCX U)) (va_Qi (fun r9 (_ : Unit) => r9 = kC "java/lang/IllegalArgumentException" (chkB (rg z 0 7) "java/lang/IllegalArgumentException")) (fun _ t => QS D T (va_A (OUT T ob fo :: WIN T v B O g ln un nx pl f0 f1 f2) sz) (wC (OUT T ob (vp_updL fo 0 ((O 0) 0 3).toInt64) :: WIN T v B (va_up (va_up O (3 + nx) (O 0)) 0 (dS (O 0) 3 z)) g ln (if un = 8 then 8 else un + 1) ((nx + 1) % 8) pl f0 f1 f2) (OUT T ob fo :: WIN T v B O g ln un nx pl f0 f1 f2) (chkB (rg z 0 7) "java/lang/IllegalArgumentException")) t) (va_A (OUT T ob fo :: WIN T v B O g ln un nx pl f0 f1 f2) sz)) 1 6 (va_A (OUT T ob fo :: WIN T v B O g ln un nx pl f0 f1 f2) sz) := by
  have hcd : oneOf "java/lang/IllegalArgumentException" "java/lang/IllegalArgumentException" (chkB (rg z 0 7) "java/lang/IllegalArgumentException") := oneOf_chk (Or.inl rfl)
  refine metLi (cc := cL_setTideLimit) (maxL := 4) (by decide) rfl (Nat.le_of_ble_eq_true rfl) ?_
  intro p e s m args below meth c Q ls A hx hb hml hown hts htab hNC hC hP hK hD hA hS hl hret
  have hown : s.vm.findClass RL = some m.cls := hown
  have hl : lv_has ls 4 [(0, .ref (v 0)), (1, .int (z)), (2, .ref (ob))] := hl
  have w1 := hts (Cond.classLink RL 19 "java/lang/IllegalArgumentException") (List.mem_of_getElem? (i := 1) rfl)
  refine lv_aload_n hx hb dL_setTideLimit_0 rfl (lv_at hl 2 rfl) ?_
  refine lv_iconst (v := 0) hx hb dL_setTideLimit_1 (by decide) ?_
  refine lv_aload_n hx hb dL_setTideLimit_2 rfl (lv_at hl 0 rfl) ?_
  refine lv_iload_n hx hb dL_setTideLimit_3 rfl (lv_at hl 1 rfl) ?_
  refine wxVi (As := [.int (z)]) (rest := [.int 0, .ref (ob)]) ⟨hx, hb, hml, hown, hts⟩ (c_X9_setTideLimit l hl9 D T aK aV v B O g ln un nx pl f0 f1 f2 z N K C nt hOI hu hnx _) (cwV 1 hts gL_setTideLimit_X9_setTideLimit rfl rfl rfl (by decide +kernel) ⟨Nat.le_of_ble_eq_true rfl, Nat.le_of_ble_eq_true rfl⟩) (Foc.cons (OUT T ob fo) _ _) (Foc.cons (OUT T ob fo) _ _) hC hK hP hD hS hA 0 rfl rfl rfl hl.1 rfl (Nat.le_of_ble_eq_true rfl) ⟨Nat.le_of_ble_eq_true rfl, Nat.le_of_ble_eq_true rfl⟩ dL_setTideLimit_4 (fun E ce q9 H locs hE hP hD hS hce hcv hcl => ?_) (fun H locs hE hP hD hS => ?_)
  ·
    obtain rfl : E = "java/lang/IllegalArgumentException" := (hcd E hE).elim id id
    refine vx_catch (E := "java/lang/IllegalArgumentException") (name := "java/lang/IllegalArgumentException") hown [] ⟨0, 9, 12, 19⟩ [] (by rw [htab]; rfl) (fun z hz => absurd hz List.not_mem_nil) (by decide) (by decide) w1 (cast_self hC.2.2.2.2 "java/lang/IllegalArgumentException" (by decide)) hce hcv hcl ?_
    refine lv_astore_n (lv' := [(3, .ref (q9)), (0, .ref (v 0)), (1, .int (z)), (2, .ref (ob))]) hx hb dL_setTideLimit_12 rfl hl (by decide) rfl (fun ls hl => ?_)
    refine lv_iconst (v := 1) hx hb dL_setTideLimit_13 (by decide) ?_
    refine endI (r := kC "java/lang/IllegalArgumentException" (chkB (rg z 0 7) "java/lang/IllegalArgumentException")) (by rw [hE]; simp [kC]) ?_
    exact hret _ _ _ _ dL_setTideLimit_14 (by rw [hE]; exact hP) (by rw [hE]; exact hD) hS
  ·
    refine lv_i2l (v := ((O 0) 0 3).toInt64) hx hb dL_setTideLimit_7 rfl ?_
    refine va_last hx hb hK hP hD hS 0 3 rfl rfl (by unfold vp_in; decide) dL_setTideLimit_8 (fun H locs hP hD hS => ?_)
    rw [show (0 : Int32).toNatClampNeg = 0 from by decide] at hP hD
    have hP : va_P D vwCl (OUT T ob (vp_updL fo 0 ((O 0) 0 3).toInt64) :: WIN T v B (va_up (va_up O (3 + nx) (O 0)) 0 (dS (O 0) 3 z)) g ln (if un = 8 then 8 else un + 1) ((nx + 1) % 8) pl f0 f1 f2) H := hP
    have hD : va_D A (OUT T ob (vp_updL fo 0 ((O 0) 0 3).toInt64) :: WIN T v B (va_up (va_up O (3 + nx) (O 0)) 0 (dS (O 0) 3 z)) g ln (if un = 8 then 8 else un + 1) ((nx + 1) % 8) pl f0 f1 f2) := hD
    refine lv_goto (tgt := 15) hx hb dL_setTideLimit_9 (by decide) ?_
    refine lv_iconst (v := 0) hx hb dL_setTideLimit_15 (by decide) ?_
    refine endI (r := kC "java/lang/IllegalArgumentException" (chkB (rg z 0 7) "java/lang/IllegalArgumentException")) (by rw [hE]; rfl) ?_
    exact hret _ _ _ _ dL_setTideLimit_16 (by rw [hE]; exact hP) (by rw [hE]; exact hD) hS

set_option maxHeartbeats 4000000 in
set_option maxRecDepth 100000 in
theorem c_L_shorten (l : Launch) (hl9 : l.stackTraces = false) (D : va_G) (T : Nat → ClassId) (aK aV : Nat → Nat) (v : Nat → Nat) (B : Nat → Nat → Nat) (O : Nat → Nat → Nat → Int32) (g : CSt) (ln un nx pl : Nat) (f0 f1 f2 : Nat → Int32) (ob : Nat) (fo : Nat → Int64) (z : Int32)  (hL2 : ln ≤ 600) (sz : Nat) : Met l yL_shorten wsL_shorten ({ frames := 7, cells := 1, slots := 6, locals := 111 } : Room) (va_Pc [.ref (v 0), .int (z), .ref (ob)] (fun U => PSc D T aK aV (OUT T ob fo :: WIN T v B O g ln un nx pl f0 f1 f2) sz U ∧ NCX U)) (va_Qi (fun r9 (_ : Unit) => r9 = kC "java/lang/IllegalArgumentException" (chkB (rg z 0 (nI ln)) "java/lang/IllegalArgumentException")) (fun _ t => QS D T (va_A (OUT T ob fo :: WIN T v B O g ln un nx pl f0 f1 f2) sz) (wC (OUT T ob (vp_updL fo 0 (z).toInt64) :: WIN T v B O g z.toNatClampNeg un nx pl f0 f1 f2) (OUT T ob fo :: WIN T v B O g ln un nx pl f0 f1 f2) (chkB (rg z 0 (nI ln)) "java/lang/IllegalArgumentException")) t) (va_A (OUT T ob fo :: WIN T v B O g ln un nx pl f0 f1 f2) sz)) 1 6 (va_A (OUT T ob fo :: WIN T v B O g ln un nx pl f0 f1 f2) sz) := by
  have hcd : oneOf "java/lang/IllegalArgumentException" "java/lang/IllegalArgumentException" (chkB (rg z 0 (nI ln)) "java/lang/IllegalArgumentException") := oneOf_chk (Or.inl rfl)
  refine metLi (cc := cL_shorten) (maxL := 4) (by decide) rfl (Nat.le_of_ble_eq_true rfl) ?_
  intro p e s m args below meth c Q ls A hx hb hml hown hts htab hNC hC hP hK hD hA hS hl hret
  have hown : s.vm.findClass RL = some m.cls := hown
  have hl : lv_has ls 4 [(0, .ref (v 0)), (1, .int (z)), (2, .ref (ob))] := hl
  have w1 := hts (Cond.classLink RL 19 "java/lang/IllegalArgumentException") (List.mem_of_getElem? (i := 1) rfl)
  refine lv_aload_n hx hb dL_shorten_0 rfl (lv_at hl 2 rfl) ?_
  refine lv_iconst (v := 0) hx hb dL_shorten_1 (by decide) ?_
  refine lv_aload_n hx hb dL_shorten_2 rfl (lv_at hl 0 rfl) ?_
  refine lv_iload_n hx hb dL_shorten_3 rfl (lv_at hl 1 rfl) ?_
  refine wxVi (As := [.int (z)]) (rest := [.int 0, .ref (ob)]) ⟨hx, hb, hml, hown, hts⟩ (c_X9_shorten l hl9 D T aK aV v B O g ln un nx pl f0 f1 f2 z hL2 _) (cwV 1 hts gL_shorten_X9_shorten rfl rfl rfl (by decide +kernel) ⟨Nat.le_of_ble_eq_true rfl, Nat.le_of_ble_eq_true rfl⟩) (Foc.cons (OUT T ob fo) _ _) (Foc.cons (OUT T ob fo) _ _) hC hK hP hD hS hA 0 rfl rfl rfl hl.1 rfl (Nat.le_of_ble_eq_true rfl) ⟨Nat.le_of_ble_eq_true rfl, Nat.le_of_ble_eq_true rfl⟩ dL_shorten_4 (fun E ce q9 H locs hE hP hD hS hce hcv hcl => ?_) (fun H locs hE hP hD hS => ?_)
  ·
    obtain rfl : E = "java/lang/IllegalArgumentException" := (hcd E hE).elim id id
    refine vx_catch (E := "java/lang/IllegalArgumentException") (name := "java/lang/IllegalArgumentException") hown [] ⟨0, 9, 12, 19⟩ [] (by rw [htab]; rfl) (fun z hz => absurd hz List.not_mem_nil) (by decide) (by decide) w1 (cast_self hC.2.2.2.2 "java/lang/IllegalArgumentException" (by decide)) hce hcv hcl ?_
    refine lv_astore_n (lv' := [(3, .ref (q9)), (0, .ref (v 0)), (1, .int (z)), (2, .ref (ob))]) hx hb dL_shorten_12 rfl hl (by decide) rfl (fun ls hl => ?_)
    refine lv_iconst (v := 1) hx hb dL_shorten_13 (by decide) ?_
    refine endI (r := kC "java/lang/IllegalArgumentException" (chkB (rg z 0 (nI ln)) "java/lang/IllegalArgumentException")) (by rw [hE]; simp [kC]) ?_
    exact hret _ _ _ _ dL_shorten_14 (by rw [hE]; exact hP) (by rw [hE]; exact hD) hS
  ·
    refine lv_i2l (v := (z).toInt64) hx hb dL_shorten_7 rfl ?_
    refine va_last hx hb hK hP hD hS 0 3 rfl rfl (by unfold vp_in; decide) dL_shorten_8 (fun H locs hP hD hS => ?_)
    rw [show (0 : Int32).toNatClampNeg = 0 from by decide] at hP hD
    have hP : va_P D vwCl (OUT T ob (vp_updL fo 0 (z).toInt64) :: WIN T v B O g z.toNatClampNeg un nx pl f0 f1 f2) H := hP
    have hD : va_D A (OUT T ob (vp_updL fo 0 (z).toInt64) :: WIN T v B O g z.toNatClampNeg un nx pl f0 f1 f2) := hD
    refine lv_goto (tgt := 15) hx hb dL_shorten_9 (by decide) ?_
    refine lv_iconst (v := 0) hx hb dL_shorten_15 (by decide) ?_
    refine endI (r := kC "java/lang/IllegalArgumentException" (chkB (rg z 0 (nI ln)) "java/lang/IllegalArgumentException")) (by rw [hE]; rfl) ?_
    exact hret _ _ _ _ dL_shorten_16 (by rw [hE]; exact hP) (by rw [hE]; exact hD) hS

set_option maxHeartbeats 4000000 in
set_option maxRecDepth 100000 in
theorem c_L_skillOf (l : Launch) (hl9 : l.stackTraces = false) (D : va_G) (T : Nat → ClassId) (aK aV : Nat → Nat) (v : Nat → Nat) (B : Nat → Nat → Nat) (O : Nat → Nat → Nat → Int32) (g : CSt) (ln un nx pl : Nat) (f0 f1 f2 : Nat → Int32) (ob : Nat) (fo : Nat → Int64) (z : Int32) (N : Nat) (K : Nat) (C : Nat) (nt : Nat) (hOI : OI (O 0) N K C nt) (sz : Nat) : Met l yL_skillOf wsL_skillOf ({ frames := 8, cells := 1, slots := 6, locals := 132 } : Room) (va_Pc [.ref (v 0), .int (z), .ref (ob)] (fun U => PSc D T aK aV (OUT T ob fo :: WIN T v B O g ln un nx pl f0 f1 f2) sz U ∧ NCX U)) (va_Qi (fun r9 (_ : Unit) => r9 = kC "java/lang/IndexOutOfBoundsException" (chkB (inN z K) "java/lang/IndexOutOfBoundsException")) (fun _ t => QS D T (va_A (OUT T ob fo :: WIN T v B O g ln un nx pl f0 f1 f2) sz) (wC (OUT T ob (vp_updL fo 0 ((O 0) 2 z.toNatClampNeg).toInt64) :: WIN T v B O g ln un nx pl f0 f1 f2) (OUT T ob fo :: WIN T v B O g ln un nx pl f0 f1 f2) (chkB (inN z K) "java/lang/IndexOutOfBoundsException")) t) (va_A (OUT T ob fo :: WIN T v B O g ln un nx pl f0 f1 f2) sz)) 1 6 (va_A (OUT T ob fo :: WIN T v B O g ln un nx pl f0 f1 f2) sz) := by
  have hcd : oneOf "java/lang/IndexOutOfBoundsException" "java/lang/IndexOutOfBoundsException" (chkB (inN z K) "java/lang/IndexOutOfBoundsException") := oneOf_chk (Or.inl rfl)
  refine metLi (cc := cL_skillOf) (maxL := 4) (by decide) rfl (Nat.le_of_ble_eq_true rfl) ?_
  intro p e s m args below meth c Q ls A hx hb hml hown hts htab hNC hC hP hK hD hA hS hl hret
  have hown : s.vm.findClass RL = some m.cls := hown
  have hl : lv_has ls 4 [(0, .ref (v 0)), (1, .int (z)), (2, .ref (ob))] := hl
  have w1 := hts (Cond.classLink RL 55 "java/lang/IndexOutOfBoundsException") (List.mem_of_getElem? (i := 1) rfl)
  refine lv_aload_n hx hb dL_skillOf_0 rfl (lv_at hl 2 rfl) ?_
  refine lv_iconst (v := 0) hx hb dL_skillOf_1 (by decide) ?_
  refine lv_aload_n hx hb dL_skillOf_2 rfl (lv_at hl 0 rfl) ?_
  refine lv_iload_n hx hb dL_skillOf_3 rfl (lv_at hl 1 rfl) ?_
  refine wxVi (As := [.int (z)]) (rest := [.int 0, .ref (ob)]) ⟨hx, hb, hml, hown, hts⟩ (c_X9_skillOf l hl9 D T aK aV v B O g ln un nx pl f0 f1 f2 z N K C nt hOI _) (cwV 1 hts gL_skillOf_X9_skillOf rfl rfl rfl (by decide +kernel) ⟨Nat.le_of_ble_eq_true rfl, Nat.le_of_ble_eq_true rfl⟩) (Foc.cons (OUT T ob fo) _ _) (Foc.cons (OUT T ob fo) _ _) hC hK hP hD hS hA 0 rfl rfl rfl hl.1 rfl (Nat.le_of_ble_eq_true rfl) ⟨Nat.le_of_ble_eq_true rfl, Nat.le_of_ble_eq_true rfl⟩ dL_skillOf_4 (fun E ce q9 H locs hE hP hD hS hce hcv hcl => ?_) (fun H locs hE hP hD hS => ?_)
  ·
    obtain rfl : E = "java/lang/IndexOutOfBoundsException" := (hcd E hE).elim id id
    refine vx_catch (E := "java/lang/IndexOutOfBoundsException") (name := "java/lang/IndexOutOfBoundsException") hown [] ⟨0, 9, 12, 55⟩ [] (by rw [htab]; rfl) (fun z hz => absurd hz List.not_mem_nil) (by decide) (by decide) w1 (cast_self hC.2.2.2.2 "java/lang/IndexOutOfBoundsException" (by decide)) hce hcv hcl ?_
    refine lv_astore_n (lv' := [(3, .ref (q9)), (0, .ref (v 0)), (1, .int (z)), (2, .ref (ob))]) hx hb dL_skillOf_12 rfl hl (by decide) rfl (fun ls hl => ?_)
    refine lv_iconst (v := 1) hx hb dL_skillOf_13 (by decide) ?_
    refine endI (r := kC "java/lang/IndexOutOfBoundsException" (chkB (inN z K) "java/lang/IndexOutOfBoundsException")) (by rw [hE]; simp [kC]) ?_
    exact hret _ _ _ _ dL_skillOf_14 (by rw [hE]; exact hP) (by rw [hE]; exact hD) hS
  ·
    refine lv_i2l (v := ((O 0) 2 z.toNatClampNeg).toInt64) hx hb dL_skillOf_7 rfl ?_
    refine va_last hx hb hK hP hD hS 0 3 rfl rfl (by unfold vp_in; decide) dL_skillOf_8 (fun H locs hP hD hS => ?_)
    rw [show (0 : Int32).toNatClampNeg = 0 from by decide] at hP hD
    have hP : va_P D vwCl (OUT T ob (vp_updL fo 0 ((O 0) 2 z.toNatClampNeg).toInt64) :: WIN T v B O g ln un nx pl f0 f1 f2) H := hP
    have hD : va_D A (OUT T ob (vp_updL fo 0 ((O 0) 2 z.toNatClampNeg).toInt64) :: WIN T v B O g ln un nx pl f0 f1 f2) := hD
    refine lv_goto (tgt := 15) hx hb dL_skillOf_9 (by decide) ?_
    refine lv_iconst (v := 0) hx hb dL_skillOf_15 (by decide) ?_
    refine endI (r := kC "java/lang/IndexOutOfBoundsException" (chkB (inN z K) "java/lang/IndexOutOfBoundsException")) (by rw [hE]; rfl) ?_
    exact hret _ _ _ _ dL_skillOf_16 (by rw [hE]; exact hP) (by rw [hE]; exact hD) hS

set_option maxHeartbeats 4000000 in
set_option maxRecDepth 100000 in
theorem c_L_sortOf (l : Launch) (hl9 : l.stackTraces = false) (D : va_G) (T : Nat → ClassId) (aK aV : Nat → Nat) (v : Nat → Nat) (B : Nat → Nat → Nat) (O : Nat → Nat → Nat → Int32) (g : CSt) (ln un nx pl : Nat) (f0 f1 f2 : Nat → Int32) (ob : Nat) (fo : Nat → Int64) (z : Int32) (N : Nat) (K : Nat) (C : Nat) (nt : Nat) (hOI : OI (O 0) N K C nt) (sz : Nat) : Met l yL_sortOf wsL_sortOf ({ frames := 8, cells := 1, slots := 6, locals := 132 } : Room) (va_Pc [.ref (v 0), .int (z), .ref (ob)] (fun U => PSc D T aK aV (OUT T ob fo :: WIN T v B O g ln un nx pl f0 f1 f2) sz U ∧ NCX U)) (va_Qi (fun r9 (_ : Unit) => r9 = kC "java/lang/IndexOutOfBoundsException" (chkB (inN z N) "java/lang/IndexOutOfBoundsException")) (fun _ t => QS D T (va_A (OUT T ob fo :: WIN T v B O g ln un nx pl f0 f1 f2) sz) (wC (OUT T ob (vp_updL fo 0 ((O 0) 5 z.toNatClampNeg).toInt64) :: WIN T v B O g ln un nx pl f0 f1 f2) (OUT T ob fo :: WIN T v B O g ln un nx pl f0 f1 f2) (chkB (inN z N) "java/lang/IndexOutOfBoundsException")) t) (va_A (OUT T ob fo :: WIN T v B O g ln un nx pl f0 f1 f2) sz)) 1 6 (va_A (OUT T ob fo :: WIN T v B O g ln un nx pl f0 f1 f2) sz) := by
  have hcd : oneOf "java/lang/IndexOutOfBoundsException" "java/lang/IndexOutOfBoundsException" (chkB (inN z N) "java/lang/IndexOutOfBoundsException") := oneOf_chk (Or.inl rfl)
  refine metLi (cc := cL_sortOf) (maxL := 4) (by decide) rfl (Nat.le_of_ble_eq_true rfl) ?_
  intro p e s m args below meth c Q ls A hx hb hml hown hts htab hNC hC hP hK hD hA hS hl hret
  have hown : s.vm.findClass RL = some m.cls := hown
  have hl : lv_has ls 4 [(0, .ref (v 0)), (1, .int (z)), (2, .ref (ob))] := hl
  have w1 := hts (Cond.classLink RL 55 "java/lang/IndexOutOfBoundsException") (List.mem_of_getElem? (i := 1) rfl)
  refine lv_aload_n hx hb dL_sortOf_0 rfl (lv_at hl 2 rfl) ?_
  refine lv_iconst (v := 0) hx hb dL_sortOf_1 (by decide) ?_
  refine lv_aload_n hx hb dL_sortOf_2 rfl (lv_at hl 0 rfl) ?_
  refine lv_iload_n hx hb dL_sortOf_3 rfl (lv_at hl 1 rfl) ?_
  refine wxVi (As := [.int (z)]) (rest := [.int 0, .ref (ob)]) ⟨hx, hb, hml, hown, hts⟩ (c_X9_sortOf l hl9 D T aK aV v B O g ln un nx pl f0 f1 f2 z N K C nt hOI _) (cwV 1 hts gL_sortOf_X9_sortOf rfl rfl rfl (by decide +kernel) ⟨Nat.le_of_ble_eq_true rfl, Nat.le_of_ble_eq_true rfl⟩) (Foc.cons (OUT T ob fo) _ _) (Foc.cons (OUT T ob fo) _ _) hC hK hP hD hS hA 0 rfl rfl rfl hl.1 rfl (Nat.le_of_ble_eq_true rfl) ⟨Nat.le_of_ble_eq_true rfl, Nat.le_of_ble_eq_true rfl⟩ dL_sortOf_4 (fun E ce q9 H locs hE hP hD hS hce hcv hcl => ?_) (fun H locs hE hP hD hS => ?_)
  ·
    obtain rfl : E = "java/lang/IndexOutOfBoundsException" := (hcd E hE).elim id id
    refine vx_catch (E := "java/lang/IndexOutOfBoundsException") (name := "java/lang/IndexOutOfBoundsException") hown [] ⟨0, 9, 12, 55⟩ [] (by rw [htab]; rfl) (fun z hz => absurd hz List.not_mem_nil) (by decide) (by decide) w1 (cast_self hC.2.2.2.2 "java/lang/IndexOutOfBoundsException" (by decide)) hce hcv hcl ?_
    refine lv_astore_n (lv' := [(3, .ref (q9)), (0, .ref (v 0)), (1, .int (z)), (2, .ref (ob))]) hx hb dL_sortOf_12 rfl hl (by decide) rfl (fun ls hl => ?_)
    refine lv_iconst (v := 1) hx hb dL_sortOf_13 (by decide) ?_
    refine endI (r := kC "java/lang/IndexOutOfBoundsException" (chkB (inN z N) "java/lang/IndexOutOfBoundsException")) (by rw [hE]; simp [kC]) ?_
    exact hret _ _ _ _ dL_sortOf_14 (by rw [hE]; exact hP) (by rw [hE]; exact hD) hS
  ·
    refine lv_i2l (v := ((O 0) 5 z.toNatClampNeg).toInt64) hx hb dL_sortOf_7 rfl ?_
    refine va_last hx hb hK hP hD hS 0 3 rfl rfl (by unfold vp_in; decide) dL_sortOf_8 (fun H locs hP hD hS => ?_)
    rw [show (0 : Int32).toNatClampNeg = 0 from by decide] at hP hD
    have hP : va_P D vwCl (OUT T ob (vp_updL fo 0 ((O 0) 5 z.toNatClampNeg).toInt64) :: WIN T v B O g ln un nx pl f0 f1 f2) H := hP
    have hD : va_D A (OUT T ob (vp_updL fo 0 ((O 0) 5 z.toNatClampNeg).toInt64) :: WIN T v B O g ln un nx pl f0 f1 f2) := hD
    refine lv_goto (tgt := 15) hx hb dL_sortOf_9 (by decide) ?_
    refine lv_iconst (v := 0) hx hb dL_sortOf_15 (by decide) ?_
    refine endI (r := kC "java/lang/IndexOutOfBoundsException" (chkB (inN z N) "java/lang/IndexOutOfBoundsException")) (by rw [hE]; rfl) ?_
    exact hret _ _ _ _ dL_sortOf_16 (by rw [hE]; exact hP) (by rw [hE]; exact hD) hS

set_option maxHeartbeats 4000000 in
set_option maxRecDepth 100000 in
theorem c_L_tideOf (l : Launch) (hl9 : l.stackTraces = false) (D : va_G) (T : Nat → ClassId) (aK aV : Nat → Nat) (v : Nat → Nat) (B : Nat → Nat → Nat) (O : Nat → Nat → Nat → Int32) (g : CSt) (ln un nx pl : Nat) (f0 f1 f2 : Nat → Int32) (ob : Nat) (fo : Nat → Int64) (z : Int32) (N : Nat) (K : Nat) (C : Nat) (nt : Nat) (hOI : OI (O 0) N K C nt) (sz : Nat) : Met l yL_tideOf wsL_tideOf ({ frames := 9, cells := 1, slots := 6, locals := 153 } : Room) (va_Pc [.ref (v 0), .int (z), .ref (ob)] (fun U => PSc D T aK aV (OUT T ob fo :: WIN T v B O g ln un nx pl f0 f1 f2) sz U ∧ NCX U)) (va_Qi (fun r9 (_ : Unit) => r9 = kC "java/lang/IllegalArgumentException" (chkB (rg z 0 2000) "java/lang/IllegalArgumentException")) (fun _ t => QS D T (va_A (OUT T ob fo :: WIN T v B O g ln un nx pl f0 f1 f2) sz) (wC (OUT T ob (vp_updL fo 0 (nI (tideN z.toNatClampNeg)).toInt64) :: WIN T v B O g ln un nx pl f0 f1 f2) (OUT T ob fo :: WIN T v B O g ln un nx pl f0 f1 f2) (chkB (rg z 0 2000) "java/lang/IllegalArgumentException")) t) (va_A (OUT T ob fo :: WIN T v B O g ln un nx pl f0 f1 f2) sz)) 1 6 (va_A (OUT T ob fo :: WIN T v B O g ln un nx pl f0 f1 f2) sz) := by
  have hcd : oneOf "java/lang/IllegalArgumentException" "java/lang/IllegalArgumentException" (chkB (rg z 0 2000) "java/lang/IllegalArgumentException") := oneOf_chk (Or.inl rfl)
  refine metLi (cc := cL_tideOf) (maxL := 4) (by decide) rfl (Nat.le_of_ble_eq_true rfl) ?_
  intro p e s m args below meth c Q ls A hx hb hml hown hts htab hNC hC hP hK hD hA hS hl hret
  have hown : s.vm.findClass RL = some m.cls := hown
  have hl : lv_has ls 4 [(0, .ref (v 0)), (1, .int (z)), (2, .ref (ob))] := hl
  have w1 := hts (Cond.classLink RL 19 "java/lang/IllegalArgumentException") (List.mem_of_getElem? (i := 1) rfl)
  refine lv_aload_n hx hb dL_tideOf_0 rfl (lv_at hl 2 rfl) ?_
  refine lv_iconst (v := 0) hx hb dL_tideOf_1 (by decide) ?_
  refine lv_aload_n hx hb dL_tideOf_2 rfl (lv_at hl 0 rfl) ?_
  refine lv_iload_n hx hb dL_tideOf_3 rfl (lv_at hl 1 rfl) ?_
  refine wxVi (As := [.int (z)]) (rest := [.int 0, .ref (ob)]) ⟨hx, hb, hml, hown, hts⟩ (c_X9_tideOf l hl9 D T aK aV v B O g ln un nx pl f0 f1 f2 z N K C nt hOI _) (cwV 1 hts gL_tideOf_X9_tideOf rfl rfl rfl (by decide +kernel) ⟨Nat.le_of_ble_eq_true rfl, Nat.le_of_ble_eq_true rfl⟩) (Foc.cons (OUT T ob fo) _ _) (Foc.cons (OUT T ob fo) _ _) hC hK hP hD hS hA 0 rfl rfl rfl hl.1 rfl (Nat.le_of_ble_eq_true rfl) ⟨Nat.le_of_ble_eq_true rfl, Nat.le_of_ble_eq_true rfl⟩ dL_tideOf_4 (fun E ce q9 H locs hE hP hD hS hce hcv hcl => ?_) (fun H locs hE hP hD hS => ?_)
  ·
    obtain rfl : E = "java/lang/IllegalArgumentException" := (hcd E hE).elim id id
    refine vx_catch (E := "java/lang/IllegalArgumentException") (name := "java/lang/IllegalArgumentException") hown [] ⟨0, 9, 12, 19⟩ [] (by rw [htab]; rfl) (fun z hz => absurd hz List.not_mem_nil) (by decide) (by decide) w1 (cast_self hC.2.2.2.2 "java/lang/IllegalArgumentException" (by decide)) hce hcv hcl ?_
    refine lv_astore_n (lv' := [(3, .ref (q9)), (0, .ref (v 0)), (1, .int (z)), (2, .ref (ob))]) hx hb dL_tideOf_12 rfl hl (by decide) rfl (fun ls hl => ?_)
    refine lv_iconst (v := 1) hx hb dL_tideOf_13 (by decide) ?_
    refine endI (r := kC "java/lang/IllegalArgumentException" (chkB (rg z 0 2000) "java/lang/IllegalArgumentException")) (by rw [hE]; simp [kC]) ?_
    exact hret _ _ _ _ dL_tideOf_14 (by rw [hE]; exact hP) (by rw [hE]; exact hD) hS
  ·
    refine lv_i2l (v := (nI (tideN z.toNatClampNeg)).toInt64) hx hb dL_tideOf_7 rfl ?_
    refine va_last hx hb hK hP hD hS 0 3 rfl rfl (by unfold vp_in; decide) dL_tideOf_8 (fun H locs hP hD hS => ?_)
    rw [show (0 : Int32).toNatClampNeg = 0 from by decide] at hP hD
    have hP : va_P D vwCl (OUT T ob (vp_updL fo 0 (nI (tideN z.toNatClampNeg)).toInt64) :: WIN T v B O g ln un nx pl f0 f1 f2) H := hP
    have hD : va_D A (OUT T ob (vp_updL fo 0 (nI (tideN z.toNatClampNeg)).toInt64) :: WIN T v B O g ln un nx pl f0 f1 f2) := hD
    refine lv_goto (tgt := 15) hx hb dL_tideOf_9 (by decide) ?_
    refine lv_iconst (v := 0) hx hb dL_tideOf_15 (by decide) ?_
    refine endI (r := kC "java/lang/IllegalArgumentException" (chkB (rg z 0 2000) "java/lang/IllegalArgumentException")) (by rw [hE]; rfl) ?_
    exact hret _ _ _ _ dL_tideOf_16 (by rw [hE]; exact hP) (by rw [hE]; exact hD) hS

set_option maxHeartbeats 4000000 in
set_option maxRecDepth 100000 in
theorem c_L_undo (l : Launch) (hl9 : l.stackTraces = false) (D : va_G) (T : Nat → ClassId) (aK aV : Nat → Nat) (v : Nat → Nat) (B : Nat → Nat → Nat) (O : Nat → Nat → Nat → Int32) (g : CSt) (ln un nx pl : Nat) (f0 f1 f2 : Nat → Int32) (ob : Nat) (fo : Nat → Int64)  (hu : un ≤ 8) (hnx : nx < 8) (sz : Nat) : Met l yL_undo wsL_undo ({ frames := 7, cells := 1, slots := 6, locals := 123 } : Room) (va_Pc [.ref (v 0), .ref (ob)] (fun U => PSc D T aK aV (OUT T ob fo :: WIN T v B O g ln un nx pl f0 f1 f2) sz U ∧ NCX U)) (va_Qi (fun r9 (_ : Unit) => r9 = kC "java/lang/IllegalStateException" (chkB (!decide (un = 0)) "java/lang/IllegalStateException")) (fun _ t => QS D T (va_A (OUT T ob fo :: WIN T v B O g ln un nx pl f0 f1 f2) sz) (wC (OUT T ob (vp_updL fo 0 (nI (un - 1)).toInt64) :: WIN T v B (va_up O 0 (O (3 + (nx + 7) % 8))) g ln (un - 1) ((nx + 7) % 8) pl f0 f1 f2) (OUT T ob fo :: WIN T v B O g ln un nx pl f0 f1 f2) (chkB (!decide (un = 0)) "java/lang/IllegalStateException")) t) (va_A (OUT T ob fo :: WIN T v B O g ln un nx pl f0 f1 f2) sz)) 1 6 (va_A (OUT T ob fo :: WIN T v B O g ln un nx pl f0 f1 f2) sz) := by
  have hcd : oneOf "java/lang/IllegalStateException" "java/lang/IllegalStateException" (chkB (!decide (un = 0)) "java/lang/IllegalStateException") := oneOf_chk (Or.inl rfl)
  refine metLi (cc := cL_undo) (maxL := 3) (by decide) rfl (Nat.le_of_ble_eq_true rfl) ?_
  intro p e s m args below meth c Q ls A hx hb hml hown hts htab hNC hC hP hK hD hA hS hl hret
  have hown : s.vm.findClass RL = some m.cls := hown
  have hl : lv_has ls 3 [(0, .ref (v 0)), (1, .ref (ob))] := hl
  have w1 := hts (Cond.classLink RL 13 "java/lang/IllegalStateException") (List.mem_of_getElem? (i := 1) rfl)
  refine lv_aload_n hx hb dL_undo_0 rfl (lv_at hl 1 rfl) ?_
  refine lv_iconst (v := 0) hx hb dL_undo_1 (by decide) ?_
  refine lv_aload_n hx hb dL_undo_2 rfl (lv_at hl 0 rfl) ?_
  refine wxVi (As := []) (rest := [.int 0, .ref (ob)]) ⟨hx, hb, hml, hown, hts⟩ (c_X9_undo l hl9 D T aK aV v B O g ln un nx pl f0 f1 f2 hu hnx _) (cwV 0 hts gL_undo_X9_undo rfl rfl rfl (by decide +kernel) ⟨Nat.le_of_ble_eq_true rfl, Nat.le_of_ble_eq_true rfl⟩) (Foc.cons (OUT T ob fo) _ _) (Foc.cons (OUT T ob fo) _ _) hC hK hP hD hS hA 0 rfl rfl rfl hl.1 rfl (Nat.le_of_ble_eq_true rfl) ⟨Nat.le_of_ble_eq_true rfl, Nat.le_of_ble_eq_true rfl⟩ dL_undo_3 (fun E ce q9 H locs hE hP hD hS hce hcv hcl => ?_) (fun H locs hE hP hD hS => ?_)
  ·
    obtain rfl : E = "java/lang/IllegalStateException" := (hcd E hE).elim id id
    refine vx_catch (E := "java/lang/IllegalStateException") (name := "java/lang/IllegalStateException") hown [] ⟨0, 8, 11, 13⟩ [] (by rw [htab]; rfl) (fun z hz => absurd hz List.not_mem_nil) (by decide) (by decide) w1 (cast_self hC.2.2.2.2 "java/lang/IllegalStateException" (by decide)) hce hcv hcl ?_
    refine lv_astore_n (lv' := [(2, .ref (q9)), (0, .ref (v 0)), (1, .ref (ob))]) hx hb dL_undo_11 rfl hl (by decide) rfl (fun ls hl => ?_)
    refine lv_iconst (v := 1) hx hb dL_undo_12 (by decide) ?_
    refine endI (r := kC "java/lang/IllegalStateException" (chkB (!decide (un = 0)) "java/lang/IllegalStateException")) (by rw [hE]; simp [kC]) ?_
    exact hret _ _ _ _ dL_undo_13 (by rw [hE]; exact hP) (by rw [hE]; exact hD) hS
  ·
    refine lv_i2l (v := (nI (un - 1)).toInt64) hx hb dL_undo_6 rfl ?_
    refine va_last hx hb hK hP hD hS 0 3 rfl rfl (by unfold vp_in; decide) dL_undo_7 (fun H locs hP hD hS => ?_)
    rw [show (0 : Int32).toNatClampNeg = 0 from by decide] at hP hD
    have hP : va_P D vwCl (OUT T ob (vp_updL fo 0 (nI (un - 1)).toInt64) :: WIN T v B (va_up O 0 (O (3 + (nx + 7) % 8))) g ln (un - 1) ((nx + 7) % 8) pl f0 f1 f2) H := hP
    have hD : va_D A (OUT T ob (vp_updL fo 0 (nI (un - 1)).toInt64) :: WIN T v B (va_up O 0 (O (3 + (nx + 7) % 8))) g ln (un - 1) ((nx + 7) % 8) pl f0 f1 f2) := hD
    refine lv_goto (tgt := 14) hx hb dL_undo_8 (by decide) ?_
    refine lv_iconst (v := 0) hx hb dL_undo_14 (by decide) ?_
    refine endI (r := kC "java/lang/IllegalStateException" (chkB (!decide (un = 0)) "java/lang/IllegalStateException")) (by rw [hE]; rfl) ?_
    exact hret _ _ _ _ dL_undo_15 (by rw [hE]; exact hP) (by rw [hE]; exact hD) hS

set_option maxHeartbeats 4000000 in
set_option maxRecDepth 100000 in
theorem c_L_visibleLight (l : Launch) (hl9 : l.stackTraces = false) (D : va_G) (T : Nat → ClassId) (aK aV : Nat → Nat) (v : Nat → Nat) (B : Nat → Nat → Nat) (O : Nat → Nat → Nat → Int32) (g : CSt) (ln un nx pl : Nat) (f0 f1 f2 : Nat → Int32) (ob : Nat) (fo : Nat → Int64) (z : Int32) (N : Nat) (K : Nat) (C : Nat) (nt : Nat) (hOI : OI (O 0) N K C nt) (sz : Nat) : Met l yL_visibleLight wsL_visibleLight ({ frames := 9, cells := 1, slots := 6, locals := 153 } : Room) (va_Pc [.ref (v 0), .int (z), .ref (ob)] (fun U => PSc D T aK aV (OUT T ob fo :: WIN T v B O g ln un nx pl f0 f1 f2) sz U ∧ NCX U)) (va_Qi (fun r9 (_ : Unit) => r9 = kC "java/lang/IllegalArgumentException" (chkB (rg z 0 2000) "java/lang/IllegalArgumentException")) (fun _ t => QS D T (va_A (OUT T ob fo :: WIN T v B O g ln un nx pl f0 f1 f2) sz) (wC (OUT T ob (vp_updL fo 0 (visI z.toNatClampNeg ((O 0) 1 (z.toNatClampNeg % C))).toInt64) :: WIN T v B O g ln un nx pl f0 f1 f2) (OUT T ob fo :: WIN T v B O g ln un nx pl f0 f1 f2) (chkB (rg z 0 2000) "java/lang/IllegalArgumentException")) t) (va_A (OUT T ob fo :: WIN T v B O g ln un nx pl f0 f1 f2) sz)) 1 6 (va_A (OUT T ob fo :: WIN T v B O g ln un nx pl f0 f1 f2) sz) := by
  have hcd : oneOf "java/lang/IllegalArgumentException" "java/lang/IllegalArgumentException" (chkB (rg z 0 2000) "java/lang/IllegalArgumentException") := oneOf_chk (Or.inl rfl)
  refine metLi (cc := cL_visibleLight) (maxL := 4) (by decide) rfl (Nat.le_of_ble_eq_true rfl) ?_
  intro p e s m args below meth c Q ls A hx hb hml hown hts htab hNC hC hP hK hD hA hS hl hret
  have hown : s.vm.findClass RL = some m.cls := hown
  have hl : lv_has ls 4 [(0, .ref (v 0)), (1, .int (z)), (2, .ref (ob))] := hl
  have w1 := hts (Cond.classLink RL 19 "java/lang/IllegalArgumentException") (List.mem_of_getElem? (i := 1) rfl)
  refine lv_aload_n hx hb dL_visibleLight_0 rfl (lv_at hl 2 rfl) ?_
  refine lv_iconst (v := 0) hx hb dL_visibleLight_1 (by decide) ?_
  refine lv_aload_n hx hb dL_visibleLight_2 rfl (lv_at hl 0 rfl) ?_
  refine lv_iload_n hx hb dL_visibleLight_3 rfl (lv_at hl 1 rfl) ?_
  refine wxVi (As := [.int (z)]) (rest := [.int 0, .ref (ob)]) ⟨hx, hb, hml, hown, hts⟩ (c_X9_visibleLight l hl9 D T aK aV v B O g ln un nx pl f0 f1 f2 z N K C nt hOI _) (cwV 1 hts gL_visibleLight_X9_visibleLight rfl rfl rfl (by decide +kernel) ⟨Nat.le_of_ble_eq_true rfl, Nat.le_of_ble_eq_true rfl⟩) (Foc.cons (OUT T ob fo) _ _) (Foc.cons (OUT T ob fo) _ _) hC hK hP hD hS hA 0 rfl rfl rfl hl.1 rfl (Nat.le_of_ble_eq_true rfl) ⟨Nat.le_of_ble_eq_true rfl, Nat.le_of_ble_eq_true rfl⟩ dL_visibleLight_4 (fun E ce q9 H locs hE hP hD hS hce hcv hcl => ?_) (fun H locs hE hP hD hS => ?_)
  ·
    obtain rfl : E = "java/lang/IllegalArgumentException" := (hcd E hE).elim id id
    refine vx_catch (E := "java/lang/IllegalArgumentException") (name := "java/lang/IllegalArgumentException") hown [] ⟨0, 9, 12, 19⟩ [] (by rw [htab]; rfl) (fun z hz => absurd hz List.not_mem_nil) (by decide) (by decide) w1 (cast_self hC.2.2.2.2 "java/lang/IllegalArgumentException" (by decide)) hce hcv hcl ?_
    refine lv_astore_n (lv' := [(3, .ref (q9)), (0, .ref (v 0)), (1, .int (z)), (2, .ref (ob))]) hx hb dL_visibleLight_12 rfl hl (by decide) rfl (fun ls hl => ?_)
    refine lv_iconst (v := 1) hx hb dL_visibleLight_13 (by decide) ?_
    refine endI (r := kC "java/lang/IllegalArgumentException" (chkB (rg z 0 2000) "java/lang/IllegalArgumentException")) (by rw [hE]; simp [kC]) ?_
    exact hret _ _ _ _ dL_visibleLight_14 (by rw [hE]; exact hP) (by rw [hE]; exact hD) hS
  ·
    refine lv_i2l (v := (visI z.toNatClampNeg ((O 0) 1 (z.toNatClampNeg % C))).toInt64) hx hb dL_visibleLight_7 rfl ?_
    refine va_last hx hb hK hP hD hS 0 3 rfl rfl (by unfold vp_in; decide) dL_visibleLight_8 (fun H locs hP hD hS => ?_)
    rw [show (0 : Int32).toNatClampNeg = 0 from by decide] at hP hD
    have hP : va_P D vwCl (OUT T ob (vp_updL fo 0 (visI z.toNatClampNeg ((O 0) 1 (z.toNatClampNeg % C))).toInt64) :: WIN T v B O g ln un nx pl f0 f1 f2) H := hP
    have hD : va_D A (OUT T ob (vp_updL fo 0 (visI z.toNatClampNeg ((O 0) 1 (z.toNatClampNeg % C))).toInt64) :: WIN T v B O g ln un nx pl f0 f1 f2) := hD
    refine lv_goto (tgt := 15) hx hb dL_visibleLight_9 (by decide) ?_
    refine lv_iconst (v := 0) hx hb dL_visibleLight_15 (by decide) ?_
    refine endI (r := kC "java/lang/IllegalArgumentException" (chkB (rg z 0 2000) "java/lang/IllegalArgumentException")) (by rw [hE]; rfl) ?_
    exact hret _ _ _ _ dL_visibleLight_16 (by rw [hE]; exact hP) (by rw [hE]; exact hD) hS

set_option maxHeartbeats 4000000 in
set_option maxRecDepth 100000 in
theorem c_L_waitingOf (l : Launch) (hl9 : l.stackTraces = false) (D : va_G) (T : Nat → ClassId) (aK aV : Nat → Nat) (v : Nat → Nat) (B : Nat → Nat → Nat) (O : Nat → Nat → Nat → Int32) (g : CSt) (ln un nx pl : Nat) (f0 f1 f2 : Nat → Int32) (ob : Nat) (fo : Nat → Int64) (z : Int32) (z1 : Int32) (N : Nat) (K : Nat) (C : Nat) (nt : Nat) (hOI : OI (O 0) N K C nt) (sz : Nat) : Met l yL_waitingOf wsL_waitingOf ({ frames := 9, cells := 3, slots := 18, locals := 155 } : Room) (va_Pc [.ref (v 0), .int (z), .int (z1), .ref (ob)] (fun U => PSc D T aK aV (OUT T ob fo :: WIN T v B O g ln un nx pl f0 f1 f2) sz U ∧ NCX U)) (va_Qi (fun r9 (_ : Unit) => r9 = kC "java/lang/IllegalArgumentException" (orE (chkB (rg z 0 99) "java/lang/IllegalArgumentException") (orE (chkB (rg z1 0 3) "java/lang/IllegalArgumentException") (chkB ((findC (O 0) z z1 N).isSome) "java/util/NoSuchElementException")))) (fun _ t => QS D T (va_A (OUT T ob fo :: WIN T v B O g ln un nx pl f0 f1 f2) sz) (wC (OUT T ob (vp_updL fo 0 ((findC (O 0) z z1 N).elim 0 nI).toInt64) :: WIN T v B O g ln un nx pl f0 f1 f2) (OUT T ob fo :: WIN T v B O g ln un nx pl f0 f1 f2) (orE (chkB (rg z 0 99) "java/lang/IllegalArgumentException") (orE (chkB (rg z1 0 3) "java/lang/IllegalArgumentException") (chkB ((findC (O 0) z z1 N).isSome) "java/util/NoSuchElementException")))) t) (va_A (OUT T ob fo :: WIN T v B O g ln un nx pl f0 f1 f2) sz)) 3 18 (va_A (OUT T ob fo :: WIN T v B O g ln un nx pl f0 f1 f2) sz) := by
  have hcd : oneOf "java/lang/IllegalArgumentException" "java/util/NoSuchElementException" (orE (chkB (rg z 0 99) "java/lang/IllegalArgumentException") (orE (chkB (rg z1 0 3) "java/lang/IllegalArgumentException") (chkB ((findC (O 0) z z1 N).isSome) "java/util/NoSuchElementException"))) := oneOf_or (oneOf_chk (Or.inl rfl)) (oneOf_or (oneOf_chk (Or.inl rfl)) (oneOf_chk (Or.inr rfl)))
  refine metLi (cc := cL_waitingOf) (maxL := 5) (by decide) rfl (Nat.le_of_ble_eq_true rfl) ?_
  intro p e s m args below meth c Q ls A hx hb hml hown hts htab hNC hC hP hK hD hA hS hl hret
  have hown : s.vm.findClass RL = some m.cls := hown
  have hl : lv_has ls 5 [(0, .ref (v 0)), (1, .int (z)), (2, .int (z1)), (3, .ref (ob))] := hl
  have w1 := hts (Cond.classLink RL 19 "java/lang/IllegalArgumentException") (List.mem_of_getElem? (i := 1) rfl)
  have w2 := hts (Cond.classLink RL 28 "java/util/NoSuchElementException") (List.mem_of_getElem? (i := 2) rfl)
  refine lv_aload_n hx hb dL_waitingOf_0 rfl (lv_at hl 3 rfl) ?_
  refine lv_iconst (v := 0) hx hb dL_waitingOf_1 (by decide) ?_
  refine lv_aload_n hx hb dL_waitingOf_2 rfl (lv_at hl 0 rfl) ?_
  refine lv_iload_n hx hb dL_waitingOf_3 rfl (lv_at hl 1 rfl) ?_
  refine lv_iload_n hx hb dL_waitingOf_4 rfl (lv_at hl 2 rfl) ?_
  refine wxVi (As := [.int (z), .int (z1)]) (rest := [.int 0, .ref (ob)]) ⟨hx, hb, hml, hown, hts⟩ (c_X9_waitingOf l hl9 D T aK aV v B O g ln un nx pl f0 f1 f2 z z1 N K C nt hOI _) (cwV 2 hts gL_waitingOf_X9_waitingOf rfl rfl rfl (by decide +kernel) ⟨Nat.le_of_ble_eq_true rfl, Nat.le_of_ble_eq_true rfl⟩) (Foc.cons (OUT T ob fo) _ _) (Foc.cons (OUT T ob fo) _ _) hC hK hP hD hS hA 0 rfl rfl rfl hl.1 rfl (Nat.le_of_ble_eq_true rfl) ⟨Nat.le_of_ble_eq_true rfl, Nat.le_of_ble_eq_true rfl⟩ dL_waitingOf_5 (fun E ce q9 H locs hE hP hD hS hce hcv hcl => ?_) (fun H locs hE hP hD hS => ?_)
  ·
    rcases hcd E hE with rfl | rfl
    ·
      refine vx_catch (E := "java/lang/IllegalArgumentException") (name := "java/lang/IllegalArgumentException") hown [] ⟨0, 10, 13, 19⟩ [⟨0, 10, 17, 28⟩] (by rw [htab]; rfl) (fun z hz => absurd hz List.not_mem_nil) (by decide) (by decide) w1 (cast_self hC.2.2.2.2 "java/lang/IllegalArgumentException" (by decide)) hce hcv hcl ?_
      refine lv_astore (lv' := [(4, .ref (q9)), (0, .ref (v 0)), (1, .int (z)), (2, .int (z1)), (3, .ref (ob))]) hx hb dL_waitingOf_13 hl (by decide) rfl (fun ls hl => ?_)
      refine lv_iconst (v := 1) hx hb dL_waitingOf_15 (by decide) ?_
      refine endI (r := kC "java/lang/IllegalArgumentException" (orE (chkB (rg z 0 99) "java/lang/IllegalArgumentException") (orE (chkB (rg z1 0 3) "java/lang/IllegalArgumentException") (chkB ((findC (O 0) z z1 N).isSome) "java/util/NoSuchElementException")))) (by rw [hE]; simp [kC]) ?_
      exact hret _ _ _ _ dL_waitingOf_16 (by rw [hE]; exact hP) (by rw [hE]; exact hD) hS
    ·
      refine vx_catch (E := "java/util/NoSuchElementException") (name := "java/util/NoSuchElementException") hown [⟨0, 10, 13, 19⟩] ⟨0, 10, 17, 28⟩ [] (by rw [htab]; rfl) (fun z hz => by obtain rfl := List.mem_singleton.mp hz; exact Or.inr ⟨by decide, "java/lang/IllegalArgumentException", w1, hNC "java/util/NoSuchElementException" (by decide) "java/lang/IllegalArgumentException" (by decide) (by decide)⟩) (by decide) (by decide) w2 (cast_self hC.2.2.2.2 "java/util/NoSuchElementException" (by decide)) hce hcv hcl ?_
      refine lv_astore (lv' := [(4, .ref (q9)), (0, .ref (v 0)), (1, .int (z)), (2, .int (z1)), (3, .ref (ob))]) hx hb dL_waitingOf_17 hl (by decide) rfl (fun ls hl => ?_)
      refine lv_iconst (v := 2) hx hb dL_waitingOf_19 (by decide) ?_
      refine endI (r := kC "java/lang/IllegalArgumentException" (orE (chkB (rg z 0 99) "java/lang/IllegalArgumentException") (orE (chkB (rg z1 0 3) "java/lang/IllegalArgumentException") (chkB ((findC (O 0) z z1 N).isSome) "java/util/NoSuchElementException")))) (by rw [hE]; simp [kC]) ?_
      exact hret _ _ _ _ dL_waitingOf_20 (by rw [hE]; exact hP) (by rw [hE]; exact hD) hS
  ·
    refine lv_i2l (v := ((findC (O 0) z z1 N).elim 0 nI).toInt64) hx hb dL_waitingOf_8 rfl ?_
    refine va_last hx hb hK hP hD hS 0 3 rfl rfl (by unfold vp_in; decide) dL_waitingOf_9 (fun H locs hP hD hS => ?_)
    rw [show (0 : Int32).toNatClampNeg = 0 from by decide] at hP hD
    have hP : va_P D vwCl (OUT T ob (vp_updL fo 0 ((findC (O 0) z z1 N).elim 0 nI).toInt64) :: WIN T v B O g ln un nx pl f0 f1 f2) H := hP
    have hD : va_D A (OUT T ob (vp_updL fo 0 ((findC (O 0) z z1 N).elim 0 nI).toInt64) :: WIN T v B O g ln un nx pl f0 f1 f2) := hD
    refine lv_goto (tgt := 21) hx hb dL_waitingOf_10 (by decide) ?_
    refine lv_iconst (v := 0) hx hb dL_waitingOf_21 (by decide) ?_
    refine endI (r := kC "java/lang/IllegalArgumentException" (orE (chkB (rg z 0 99) "java/lang/IllegalArgumentException") (orE (chkB (rg z1 0 3) "java/lang/IllegalArgumentException") (chkB ((findC (O 0) z z1 N).isSome) "java/util/NoSuchElementException")))) (by rw [hE]; rfl) ?_
    exact hret _ _ _ _ dL_waitingOf_22 (by rw [hE]; exact hP) (by rw [hE]; exact hD) hS

set_option maxHeartbeats 4000000 in
set_option maxRecDepth 100000 in
theorem c_L_willBeAnswered (l : Launch) (hl9 : l.stackTraces = false) (D : va_G) (T : Nat → ClassId) (aK aV : Nat → Nat) (v : Nat → Nat) (B : Nat → Nat → Nat) (O : Nat → Nat → Nat → Int32) (g : CSt) (ln un nx pl : Nat) (f0 f1 f2 : Nat → Int32) (ob : Nat) (fo : Nat → Int64) (z : Int32) (N : Nat) (K : Nat) (C : Nat) (nt : Nat) (hOI : OI (O 0) N K C nt) (hnt2 : nt < 2 ^ 17) (sz : Nat) : Met l yL_willBeAnswered wsL_willBeAnswered ({ frames := 8, cells := 2, slots := 12, locals := 174 } : Room) (va_Pc [.ref (v 0), .int (z), .ref (ob)] (fun U => PSc D T aK aV (OUT T ob fo :: WIN T v B O g ln un nx pl f0 f1 f2) sz U ∧ NCX U)) (va_Qi (fun r9 (_ : Unit) => r9 = kC "java/lang/IndexOutOfBoundsException" (orE (chkB (inN z N) "java/lang/IndexOutOfBoundsException") (chkB (decide ((O 0) 8 z.toNatClampNeg = 0)) "java/lang/IllegalStateException"))) (fun _ t => QS D T (va_A (OUT T ob fo :: WIN T v B O g ln un nx pl f0 f1 f2) sz) (wC (OUT T ob (vp_updL fo 0 (if ((decide ((cUntil N K C z.toNatClampNeg 56 nt (O 0)).2 8 z.toNatClampNeg = 1))) then 1 else 0)) :: WIN T v B (va_up O 1 ((cUntil N K C z.toNatClampNeg 56 nt (O 0)).2)) g ln un nx pl f0 f1 f2) (OUT T ob fo :: WIN T v B O g ln un nx pl f0 f1 f2) (orE (chkB (inN z N) "java/lang/IndexOutOfBoundsException") (chkB (decide ((O 0) 8 z.toNatClampNeg = 0)) "java/lang/IllegalStateException"))) t) (va_A (OUT T ob fo :: WIN T v B O g ln un nx pl f0 f1 f2) sz)) 2 12 (va_A (OUT T ob fo :: WIN T v B O g ln un nx pl f0 f1 f2) sz) := by
  have hcd : oneOf "java/lang/IndexOutOfBoundsException" "java/lang/IllegalStateException" (orE (chkB (inN z N) "java/lang/IndexOutOfBoundsException") (chkB (decide ((O 0) 8 z.toNatClampNeg = 0)) "java/lang/IllegalStateException")) := oneOf_or (oneOf_chk (Or.inl rfl)) (oneOf_chk (Or.inr rfl))
  refine metLi (cc := cL_willBeAnswered) (maxL := 4) (by decide) rfl (Nat.le_of_ble_eq_true rfl) ?_
  intro p e s m args below meth c Q ls A hx hb hml hown hts htab hNC hC hP hK hD hA hS hl hret
  have hown : s.vm.findClass RL = some m.cls := hown
  have hl : lv_has ls 4 [(0, .ref (v 0)), (1, .int (z)), (2, .ref (ob))] := hl
  have w1 := hts (Cond.classLink RL 55 "java/lang/IndexOutOfBoundsException") (List.mem_of_getElem? (i := 1) rfl)
  have w2 := hts (Cond.classLink RL 13 "java/lang/IllegalStateException") (List.mem_of_getElem? (i := 2) rfl)
  refine lv_aload_n hx hb dL_willBeAnswered_0 rfl (lv_at hl 2 rfl) ?_
  refine lv_iconst (v := 0) hx hb dL_willBeAnswered_1 (by decide) ?_
  refine lv_aload_n hx hb dL_willBeAnswered_2 rfl (lv_at hl 0 rfl) ?_
  refine lv_iload_n hx hb dL_willBeAnswered_3 rfl (lv_at hl 1 rfl) ?_
  refine wxVi (As := [.int (z)]) (rest := [.int 0, .ref (ob)]) ⟨hx, hb, hml, hown, hts⟩ (c_X9_willBeAnswered l hl9 D T aK aV v B O g ln un nx pl f0 f1 f2 z N K C nt hOI hnt2 _) (cwV 1 hts gL_willBeAnswered_X9_willBeAnswered rfl rfl rfl (by decide +kernel) ⟨Nat.le_of_ble_eq_true rfl, Nat.le_of_ble_eq_true rfl⟩) (Foc.cons (OUT T ob fo) _ _) (Foc.cons (OUT T ob fo) _ _) hC hK hP hD hS hA 0 rfl rfl rfl hl.1 rfl (Nat.le_of_ble_eq_true rfl) ⟨Nat.le_of_ble_eq_true rfl, Nat.le_of_ble_eq_true rfl⟩ dL_willBeAnswered_4 (fun E ce q9 H locs hE hP hD hS hce hcv hcl => ?_) (fun H locs hE hP hD hS => ?_)
  ·
    rcases hcd E hE with rfl | rfl
    ·
      refine vx_catch (E := "java/lang/IndexOutOfBoundsException") (name := "java/lang/IndexOutOfBoundsException") hown [] ⟨0, 16, 19, 55⟩ [⟨0, 16, 22, 13⟩] (by rw [htab]; rfl) (fun z hz => absurd hz List.not_mem_nil) (by decide) (by decide) w1 (cast_self hC.2.2.2.2 "java/lang/IndexOutOfBoundsException" (by decide)) hce hcv hcl ?_
      refine lv_astore_n (lv' := [(3, .ref (q9)), (0, .ref (v 0)), (1, .int (z)), (2, .ref (ob))]) hx hb dL_willBeAnswered_19 rfl hl (by decide) rfl (fun ls hl => ?_)
      refine lv_iconst (v := 1) hx hb dL_willBeAnswered_20 (by decide) ?_
      refine endI (r := kC "java/lang/IndexOutOfBoundsException" (orE (chkB (inN z N) "java/lang/IndexOutOfBoundsException") (chkB (decide ((O 0) 8 z.toNatClampNeg = 0)) "java/lang/IllegalStateException"))) (by rw [hE]; simp [kC]) ?_
      exact hret _ _ _ _ dL_willBeAnswered_21 (by rw [hE]; exact hP) (by rw [hE]; exact hD) hS
    ·
      refine vx_catch (E := "java/lang/IllegalStateException") (name := "java/lang/IllegalStateException") hown [⟨0, 16, 19, 55⟩] ⟨0, 16, 22, 13⟩ [] (by rw [htab]; rfl) (fun z hz => by obtain rfl := List.mem_singleton.mp hz; exact Or.inr ⟨by decide, "java/lang/IndexOutOfBoundsException", w1, hNC "java/lang/IllegalStateException" (by decide) "java/lang/IndexOutOfBoundsException" (by decide) (by decide)⟩) (by decide) (by decide) w2 (cast_self hC.2.2.2.2 "java/lang/IllegalStateException" (by decide)) hce hcv hcl ?_
      refine lv_astore_n (lv' := [(3, .ref (q9)), (0, .ref (v 0)), (1, .int (z)), (2, .ref (ob))]) hx hb dL_willBeAnswered_22 rfl hl (by decide) rfl (fun ls hl => ?_)
      refine lv_iconst (v := 2) hx hb dL_willBeAnswered_23 (by decide) ?_
      refine endI (r := kC "java/lang/IndexOutOfBoundsException" (orE (chkB (inN z N) "java/lang/IndexOutOfBoundsException") (chkB (decide ((O 0) 8 z.toNatClampNeg = 0)) "java/lang/IllegalStateException"))) (by rw [hE]; simp [kC]) ?_
      exact hret _ _ _ _ dL_willBeAnswered_24 (by rw [hE]; exact hP) (by rw [hE]; exact hD) hS
  ·
    refine lv_if_eq (tgt := 14) hx hb dL_willBeAnswered_7 (by decide) (fun cb => ?_) (fun cb => ?_)
    ·
      have cb : ¬ ((decide ((cUntil N K C z.toNatClampNeg 56 nt (O 0)).2 8 z.toNatClampNeg = 1))) = true := by rw [bI_0.mp cb]; decide
      refine lv_lconst (v := 0) hx hb dL_willBeAnswered_14 rfl ?_
      refine va_last hx hb hK hP hD hS 0 3 rfl rfl (by unfold vp_in; decide) dL_willBeAnswered_15 (fun H locs hP hD hS => ?_)
      rw [show (0 : Int32).toNatClampNeg = 0 from by decide] at hP hD
      have hP : va_P D vwCl (OUT T ob (vp_updL fo 0 0) :: WIN T v B (va_up O 1 ((cUntil N K C z.toNatClampNeg 56 nt (O 0)).2)) g ln un nx pl f0 f1 f2) H := hP
      have hD : va_D A (OUT T ob (vp_updL fo 0 0) :: WIN T v B (va_up O 1 ((cUntil N K C z.toNatClampNeg 56 nt (O 0)).2)) g ln un nx pl f0 f1 f2) := hD
      refine lv_goto (tgt := 25) hx hb dL_willBeAnswered_16 (by decide) ?_
      refine lv_iconst (v := 0) hx hb dL_willBeAnswered_25 (by decide) ?_
      refine endI (r := kC "java/lang/IndexOutOfBoundsException" (orE (chkB (inN z N) "java/lang/IndexOutOfBoundsException") (chkB (decide ((O 0) 8 z.toNatClampNeg = 0)) "java/lang/IllegalStateException"))) (by rw [hE]; rfl) ?_
      exact hret _ _ _ _ dL_willBeAnswered_26 (by rw [hE, if_neg cb]; exact hP) (by rw [hE, if_neg cb]; exact hD) hS
    ·
      have cb : ((decide ((cUntil N K C z.toNatClampNeg 56 nt (O 0)).2 8 z.toNatClampNeg = 1))) = true := bI_n0.mp cb
      refine lv_lconst (v := 1) hx hb dL_willBeAnswered_10 rfl ?_
      refine lv_goto (tgt := 15) hx hb dL_willBeAnswered_11 (by decide) ?_
      refine va_last hx hb hK hP hD hS 0 3 rfl rfl (by unfold vp_in; decide) dL_willBeAnswered_15 (fun H locs hP hD hS => ?_)
      rw [show (0 : Int32).toNatClampNeg = 0 from by decide] at hP hD
      have hP : va_P D vwCl (OUT T ob (vp_updL fo 0 1) :: WIN T v B (va_up O 1 ((cUntil N K C z.toNatClampNeg 56 nt (O 0)).2)) g ln un nx pl f0 f1 f2) H := hP
      have hD : va_D A (OUT T ob (vp_updL fo 0 1) :: WIN T v B (va_up O 1 ((cUntil N K C z.toNatClampNeg 56 nt (O 0)).2)) g ln un nx pl f0 f1 f2) := hD
      refine lv_goto (tgt := 25) hx hb dL_willBeAnswered_16 (by decide) ?_
      refine lv_iconst (v := 0) hx hb dL_willBeAnswered_25 (by decide) ?_
      refine endI (r := kC "java/lang/IndexOutOfBoundsException" (orE (chkB (inN z N) "java/lang/IndexOutOfBoundsException") (chkB (decide ((O 0) 8 z.toNatClampNeg = 0)) "java/lang/IllegalStateException"))) (by rw [hE]; rfl) ?_
      exact hret _ _ _ _ dL_willBeAnswered_26 (by rw [hE, if_pos cb]; exact hP) (by rw [hE, if_pos cb]; exact hD) hS

set_option maxHeartbeats 4000000 in
set_option maxRecDepth 100000 in
theorem c_L_writeComplaints (l : Launch) (hl9 : l.stackTraces = false) (D : va_G) (T : Nat → ClassId) (aK aV : Nat → Nat) (v : Nat → Nat) (B : Nat → Nat → Nat) (O : Nat → Nat → Nat → Int32) (g : CSt) (ln un nx pl : Nat) (f0 f1 f2 : Nat → Int32) (ob : Nat) (fo : Nat → Int64) (z : Int32) (N : Nat) (K : Nat) (C : Nat) (nt : Nat) (hOI : OI (O 0) N K C nt) (hSt : ∀ k, k < N → ∃ q, q < 4 ∧ (O 0) 8 k = nI q) (sz : Nat) : Met l yL_writeComplaints wsL_writeComplaints ({ frames := 8, cells := 1, slots := 6, locals := 134 } : Room) (va_Pc [.ref (v 0), .int (z), .ref (ob)] (fun U => PSc D T aK aV (OUT T ob fo :: WIN T v B O g ln un nx pl f0 f1 f2) sz U ∧ NCX U)) (va_Qi (fun r9 (_ : Unit) => r9 = kC "java/lang/IllegalArgumentException" (chkB (rg z 0 99) "java/lang/IllegalArgumentException")) (fun _ t => QS D T (va_A (OUT T ob fo :: WIN T v B O g ln un nx pl f0 f1 f2) sz) (wC (OUT T ob (vp_updL fo 0 (nI (iter (wStepC (O 0) z) N 0 (f1, 0)).2).toInt64) :: WIN T v B O g ln un nx ((iter (wStepC (O 0) z) N 0 (f1, 0)).2) f0 ((iter (wStepC (O 0) z) N 0 (f1, 0)).1) f2) (OUT T ob fo :: WIN T v B O g ln un nx pl f0 f1 f2) (chkB (rg z 0 99) "java/lang/IllegalArgumentException")) t) (va_A (OUT T ob fo :: WIN T v B O g ln un nx pl f0 f1 f2) sz)) 1 6 (va_A (OUT T ob fo :: WIN T v B O g ln un nx pl f0 f1 f2) sz) := by
  have hcd : oneOf "java/lang/IllegalArgumentException" "java/lang/IllegalArgumentException" (chkB (rg z 0 99) "java/lang/IllegalArgumentException") := oneOf_chk (Or.inl rfl)
  refine metLi (cc := cL_writeComplaints) (maxL := 4) (by decide) rfl (Nat.le_of_ble_eq_true rfl) ?_
  intro p e s m args below meth c Q ls A hx hb hml hown hts htab hNC hC hP hK hD hA hS hl hret
  have hown : s.vm.findClass RL = some m.cls := hown
  have hl : lv_has ls 4 [(0, .ref (v 0)), (1, .int (z)), (2, .ref (ob))] := hl
  have w1 := hts (Cond.classLink RL 19 "java/lang/IllegalArgumentException") (List.mem_of_getElem? (i := 1) rfl)
  refine lv_aload_n hx hb dL_writeComplaints_0 rfl (lv_at hl 2 rfl) ?_
  refine lv_iconst (v := 0) hx hb dL_writeComplaints_1 (by decide) ?_
  refine lv_aload_n hx hb dL_writeComplaints_2 rfl (lv_at hl 0 rfl) ?_
  refine lv_iload_n hx hb dL_writeComplaints_3 rfl (lv_at hl 1 rfl) ?_
  refine wxVi (As := [.int (z)]) (rest := [.int 0, .ref (ob)]) ⟨hx, hb, hml, hown, hts⟩ (c_X9_writeComplaints l hl9 D T aK aV v B O g ln un nx pl f0 f1 f2 z N K C nt hOI hSt _) (cwV 1 hts gL_writeComplaints_X9_writeComplaints rfl rfl rfl (by decide +kernel) ⟨Nat.le_of_ble_eq_true rfl, Nat.le_of_ble_eq_true rfl⟩) (Foc.cons (OUT T ob fo) _ _) (Foc.cons (OUT T ob fo) _ _) hC hK hP hD hS hA 0 rfl rfl rfl hl.1 rfl (Nat.le_of_ble_eq_true rfl) ⟨Nat.le_of_ble_eq_true rfl, Nat.le_of_ble_eq_true rfl⟩ dL_writeComplaints_4 (fun E ce q9 H locs hE hP hD hS hce hcv hcl => ?_) (fun H locs hE hP hD hS => ?_)
  ·
    obtain rfl : E = "java/lang/IllegalArgumentException" := (hcd E hE).elim id id
    refine vx_catch (E := "java/lang/IllegalArgumentException") (name := "java/lang/IllegalArgumentException") hown [] ⟨0, 9, 12, 19⟩ [] (by rw [htab]; rfl) (fun z hz => absurd hz List.not_mem_nil) (by decide) (by decide) w1 (cast_self hC.2.2.2.2 "java/lang/IllegalArgumentException" (by decide)) hce hcv hcl ?_
    refine lv_astore_n (lv' := [(3, .ref (q9)), (0, .ref (v 0)), (1, .int (z)), (2, .ref (ob))]) hx hb dL_writeComplaints_12 rfl hl (by decide) rfl (fun ls hl => ?_)
    refine lv_iconst (v := 1) hx hb dL_writeComplaints_13 (by decide) ?_
    refine endI (r := kC "java/lang/IllegalArgumentException" (chkB (rg z 0 99) "java/lang/IllegalArgumentException")) (by rw [hE]; simp [kC]) ?_
    exact hret _ _ _ _ dL_writeComplaints_14 (by rw [hE]; exact hP) (by rw [hE]; exact hD) hS
  ·
    refine lv_i2l (v := (nI (iter (wStepC (O 0) z) N 0 (f1, 0)).2).toInt64) hx hb dL_writeComplaints_7 rfl ?_
    refine va_last hx hb hK hP hD hS 0 3 rfl rfl (by unfold vp_in; decide) dL_writeComplaints_8 (fun H locs hP hD hS => ?_)
    rw [show (0 : Int32).toNatClampNeg = 0 from by decide] at hP hD
    have hP : va_P D vwCl (OUT T ob (vp_updL fo 0 (nI (iter (wStepC (O 0) z) N 0 (f1, 0)).2).toInt64) :: WIN T v B O g ln un nx ((iter (wStepC (O 0) z) N 0 (f1, 0)).2) f0 ((iter (wStepC (O 0) z) N 0 (f1, 0)).1) f2) H := hP
    have hD : va_D A (OUT T ob (vp_updL fo 0 (nI (iter (wStepC (O 0) z) N 0 (f1, 0)).2).toInt64) :: WIN T v B O g ln un nx ((iter (wStepC (O 0) z) N 0 (f1, 0)).2) f0 ((iter (wStepC (O 0) z) N 0 (f1, 0)).1) f2) := hD
    refine lv_goto (tgt := 15) hx hb dL_writeComplaints_9 (by decide) ?_
    refine lv_iconst (v := 0) hx hb dL_writeComplaints_15 (by decide) ?_
    refine endI (r := kC "java/lang/IllegalArgumentException" (chkB (rg z 0 99) "java/lang/IllegalArgumentException")) (by rw [hE]; rfl) ?_
    exact hret _ _ _ _ dL_writeComplaints_16 (by rw [hE]; exact hP) (by rw [hE]; exact hD) hS

set_option maxHeartbeats 4000000 in
set_option maxRecDepth 100000 in
theorem c_L_writtenByte (l : Launch) (hl9 : l.stackTraces = false) (D : va_G) (T : Nat → ClassId) (aK aV : Nat → Nat) (v : Nat → Nat) (B : Nat → Nat → Nat) (O : Nat → Nat → Nat → Int32) (g : CSt) (ln un nx pl : Nat) (f0 f1 f2 : Nat → Int32) (ob : Nat) (fo : Nat → Int64) (z : Int32)  (hpl : pl ≤ 120) (sz : Nat) : Met l yL_writtenByte wsL_writtenByte ({ frames := 7, cells := 1, slots := 6, locals := 111 } : Room) (va_Pc [.ref (v 0), .int (z), .ref (ob)] (fun U => PSc D T aK aV (OUT T ob fo :: WIN T v B O g ln un nx pl f0 f1 f2) sz U ∧ NCX U)) (va_Qi (fun r9 (_ : Unit) => r9 = kC "java/lang/IndexOutOfBoundsException" (chkB (inN z pl) "java/lang/IndexOutOfBoundsException")) (fun _ t => QS D T (va_A (OUT T ob fo :: WIN T v B O g ln un nx pl f0 f1 f2) sz) (wC (OUT T ob (vp_updL fo 0 (f1 z.toNatClampNeg).toInt64) :: WIN T v B O g ln un nx pl f0 f1 f2) (OUT T ob fo :: WIN T v B O g ln un nx pl f0 f1 f2) (chkB (inN z pl) "java/lang/IndexOutOfBoundsException")) t) (va_A (OUT T ob fo :: WIN T v B O g ln un nx pl f0 f1 f2) sz)) 1 6 (va_A (OUT T ob fo :: WIN T v B O g ln un nx pl f0 f1 f2) sz) := by
  have hcd : oneOf "java/lang/IndexOutOfBoundsException" "java/lang/IndexOutOfBoundsException" (chkB (inN z pl) "java/lang/IndexOutOfBoundsException") := oneOf_chk (Or.inl rfl)
  refine metLi (cc := cL_writtenByte) (maxL := 4) (by decide) rfl (Nat.le_of_ble_eq_true rfl) ?_
  intro p e s m args below meth c Q ls A hx hb hml hown hts htab hNC hC hP hK hD hA hS hl hret
  have hown : s.vm.findClass RL = some m.cls := hown
  have hl : lv_has ls 4 [(0, .ref (v 0)), (1, .int (z)), (2, .ref (ob))] := hl
  have w1 := hts (Cond.classLink RL 55 "java/lang/IndexOutOfBoundsException") (List.mem_of_getElem? (i := 1) rfl)
  refine lv_aload_n hx hb dL_writtenByte_0 rfl (lv_at hl 2 rfl) ?_
  refine lv_iconst (v := 0) hx hb dL_writtenByte_1 (by decide) ?_
  refine lv_aload_n hx hb dL_writtenByte_2 rfl (lv_at hl 0 rfl) ?_
  refine lv_iload_n hx hb dL_writtenByte_3 rfl (lv_at hl 1 rfl) ?_
  refine wxVi (As := [.int (z)]) (rest := [.int 0, .ref (ob)]) ⟨hx, hb, hml, hown, hts⟩ (c_X9_writtenByte l hl9 D T aK aV v B O g ln un nx pl f0 f1 f2 z hpl _) (cwV 1 hts gL_writtenByte_X9_writtenByte rfl rfl rfl (by decide +kernel) ⟨Nat.le_of_ble_eq_true rfl, Nat.le_of_ble_eq_true rfl⟩) (Foc.cons (OUT T ob fo) _ _) (Foc.cons (OUT T ob fo) _ _) hC hK hP hD hS hA 0 rfl rfl rfl hl.1 rfl (Nat.le_of_ble_eq_true rfl) ⟨Nat.le_of_ble_eq_true rfl, Nat.le_of_ble_eq_true rfl⟩ dL_writtenByte_4 (fun E ce q9 H locs hE hP hD hS hce hcv hcl => ?_) (fun H locs hE hP hD hS => ?_)
  ·
    obtain rfl : E = "java/lang/IndexOutOfBoundsException" := (hcd E hE).elim id id
    refine vx_catch (E := "java/lang/IndexOutOfBoundsException") (name := "java/lang/IndexOutOfBoundsException") hown [] ⟨0, 9, 12, 55⟩ [] (by rw [htab]; rfl) (fun z hz => absurd hz List.not_mem_nil) (by decide) (by decide) w1 (cast_self hC.2.2.2.2 "java/lang/IndexOutOfBoundsException" (by decide)) hce hcv hcl ?_
    refine lv_astore_n (lv' := [(3, .ref (q9)), (0, .ref (v 0)), (1, .int (z)), (2, .ref (ob))]) hx hb dL_writtenByte_12 rfl hl (by decide) rfl (fun ls hl => ?_)
    refine lv_iconst (v := 1) hx hb dL_writtenByte_13 (by decide) ?_
    refine endI (r := kC "java/lang/IndexOutOfBoundsException" (chkB (inN z pl) "java/lang/IndexOutOfBoundsException")) (by rw [hE]; simp [kC]) ?_
    exact hret _ _ _ _ dL_writtenByte_14 (by rw [hE]; exact hP) (by rw [hE]; exact hD) hS
  ·
    refine lv_i2l (v := (f1 z.toNatClampNeg).toInt64) hx hb dL_writtenByte_7 rfl ?_
    refine va_last hx hb hK hP hD hS 0 3 rfl rfl (by unfold vp_in; decide) dL_writtenByte_8 (fun H locs hP hD hS => ?_)
    rw [show (0 : Int32).toNatClampNeg = 0 from by decide] at hP hD
    have hP : va_P D vwCl (OUT T ob (vp_updL fo 0 (f1 z.toNatClampNeg).toInt64) :: WIN T v B O g ln un nx pl f0 f1 f2) H := hP
    have hD : va_D A (OUT T ob (vp_updL fo 0 (f1 z.toNatClampNeg).toInt64) :: WIN T v B O g ln un nx pl f0 f1 f2) := hD
    refine lv_goto (tgt := 15) hx hb dL_writtenByte_9 (by decide) ?_
    refine lv_iconst (v := 0) hx hb dL_writtenByte_15 (by decide) ?_
    refine endI (r := kC "java/lang/IndexOutOfBoundsException" (chkB (inN z pl) "java/lang/IndexOutOfBoundsException")) (by rw [hE]; rfl) ?_
    exact hret _ _ _ _ dL_writtenByte_16 (by rw [hE]; exact hP) (by rw [hE]; exact hD) hS
