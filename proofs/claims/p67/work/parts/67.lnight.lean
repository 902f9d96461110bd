/-! a night, asked -/
theorem min9 {a : Nat} (ha : a ≤ 9) : (if nI (a + 1) < 9 then nI (a + 1) else (9 : Int32)) = nI (incA a) := by
  have h := inc_nat a ha
  rw [nI_1] at h
  exact h
theorem incA_le (a : Nat) : incA a ≤ 9 := by unfold incA; split <;> omega
theorem angN_le {a g : Nat} (ha : a ≤ 9) : angN a g ≤ 9 := by
  have := incA_le a
  unfold angN; split <;> omega
section HK
variable {p : Nat → Bool} {k : Nat} {x : Int32}
theorem h_keep (h : x = nI (cN p k)) (hp : p k = false) : x = nI (cN p (k + 1)) := by
  show x = nI (cN p k + (if p k then 1 else 0))
  rw [hp]; exact h
end HK
theorem h_take {o on : Nat → Nat → Int32} {fh : Nat → Int32} {k j jj : Nat} (h : fh j = nI (cN (fun i => decide (o 8 i = 0) && decide (on 10 i = nI j)) k)) (n0 : o 8 k = 0) (m10 : on 10 k = nI jj) (hj : j < 2 ^ 31) (hjj : jj < 2 ^ 31) : va_up fh jj (fh jj + 1) j = nI (cN (fun i => decide (o 8 i = 0) && decide (on 10 i = nI j)) (k + 1)) := by
  show (if j = jj then fh jj + 1 else fh j) = nI (cN _ k + (if (decide (o 8 k = 0) && decide (on 10 k = nI j)) then 1 else 0))
  rw [n0, m10]
  by_cases e : j = jj
  · subst e
    rw [if_pos rfl, h, nI_1]
    simp
  · rw [if_neg e, decide_eq_false (p := nI jj = nI j) (fun z => e ((nI_eq hjj hj).mp z).symm), Bool.and_false]
    exact h

set_option maxHeartbeats 8000000 in
set_option maxRecDepth 100000 in
theorem c_L_night (l : Launch) (hl9 : l.stackTraces = false) (D : va_G) (T : Nat → ClassId) (aK aV : Nat → Nat) (v : Nat → Nat) (B : Nat → Nat → Nat) (O : Nat → Nat → Nat → Int32) (g : CSt) (ln un nx pl : Nat) (f0 f1 f2 : Nat → Int32)  (N K C nt : Nat) (hOI : OI (O 0) N K C nt) (hOV : OV (O 0) N K C nt) (hG : GW O un nx f2) (hnt9 : nt ≤ 999) (sz : Nat) : Met l yL_night wsL_night ({ frames := 13, cells := 8800, slots := 52800, locals := 303 } : Room) (va_Pc [.ref (v 0)] (LWP D T aK aV (WIN T v B O g ln un nx pl f0 f1 f2) sz)) (va_Qi (fun r9 (u : S3) => r9 = 1 ∧ u.1 0 = O 0 ∧ GW u.1 u.2.1 u.2.2 f2) (fun u t => QS D T (va_A (WIN T v B O g ln un nx pl f0 f1 f2) sz) (WIN T v B u.1 g ln u.2.1 u.2.2 pl f0 f1 f2) t) (va_A (WIN T v B O g ln un nx pl f0 f1 f2) sz)) 8800 52800 (va_A (WIN T v B O g ln un nx pl f0 f1 f2) sz) := by
  refine metUi (cc := cL_night) (maxL := 17) (ty := .boolean) (by decide) rfl (fun r u h => by rw [h.1]; rfl) (Nat.le_of_ble_eq_true rfl) ?_
  intro p e s m args below meth c Q ls A hx hb hml hown hts hNC hC hP hK hD hA hS hl hret
  have hown : s.vm.findClass RL = some m.cls := hown
  have hl : lv_has ls 17 [(0, .ref (v 0))] := hl
  have k1153 := hts (Cond.methodLink RL 286 Lib.Math.min.name) (List.mem_cons_of_mem _ (gT_of mw_1153 rfl))
  have k126 := hts (Cond.arrayClass .int) (List.mem_cons_of_mem _ (gT_of mw_126 rfl))
  have k478 := hts (Cond.initialized "java/lang/Math") (List.mem_cons_of_mem _ (gT_of mw_478 rfl))
  have k495 := hts (Cond.static Lib.Math.min.name) (List.mem_cons_of_mem _ (gT_of mw_495 rfl))
  have k496 := hts (Cond.code Lib.Math.min.name Lib.Math.min.code 2 (some .int)) (List.mem_cons_of_mem _ (gT_of mw_496 rfl))
  have hOI : OI (O 0) N K C nt := hOV.oi
  obtain ⟨hN, hN2, hKn, hK2, hCn, hC1, hC2, hn, hnt, hSK⟩ := id hOI
  obtain ⟨cc, hcc, hcost, hNA, hOVn⟩ := night_all hOV (by omega)
  generalize hon : (nightC N K C nt (O 0)).2 = on at hNA hOVn
  obtain ⟨hNK, ⟨hr1, hr2, hr4, hr5, hr7⟩, hoils, hused, hcnts, hr0⟩ := hNA
  obtain ⟨hNn, -, hKnn, -, hCnn, -, -, hnn, -, hSKn⟩ := hOVn.oi
  have hgo : ∀ (H : Heap) (locs : List Loc), va_P D vwCl (WIN T v B O g ln un nx pl f0 f1 f2) H → va_S A s.heap H locs → W p l e ({ frames := 13, cells := 8800, slots := 52800, locals := 303 } : Room) s m args below meth c H locs (0) (0) Q (F0 m 0 ls []) := by
    intro H locs hP hS
    refine lv_aload_n hx hb dL_night_0 rfl (lv_at hl 0 rfl) ?_
    refine rdV (As := []) (rest := []) ⟨hx, hb, hml, hown, hts⟩ (c_X9_night l D T v B O g ln un nx pl f0 f1 f2 ) (cwV 0 hts (gC gl_X9_night) rfl rfl rfl (by decide +kernel) ⟨Nat.le_of_ble_eq_true rfl, Nat.le_of_ble_eq_true rfl⟩) hK hP 0 rfl rfl rfl hl.1 rfl (Nat.le_of_ble_eq_true rfl) ⟨by show _ ≤ 8800; omega, by show _ ≤ 52800; omega⟩ dL_night_1 ?_
    refine endI (r := nI nt) (hn) ?_
    refine lv_sipush (v := 999) hx hb dL_night_4 (by decide) ?_
    refine lv_icmp_ne (tgt := 28) hx hb dL_night_7 (by decide) (fun c7 => ?_) (fun c7 => ?_)
    ·
      have c7 : ¬ nt = 999 := fun h9 => c7 ((nI_eq (a := nt) (b := 999) (by omega) (by omega)).mpr h9)
      refine lv_aload_n hx hb dL_night_28 rfl (lv_at hl 0 rfl) ?_
      refine lqSl (As := [.ref (v 0)]) (rest := []) ⟨hx, hb, hml, hown, hts⟩ (c_L_state l hl9 D T aK aV v B O g ln un nx pl f0 f1 f2 N K C nt hOI _) (va_cwS 1 hts (gC gl_L_state) rfl rfl rfl (by decide +kernel) ⟨Nat.le_of_ble_eq_true rfl, Nat.le_of_ble_eq_true rfl⟩) (Foc.rfl _ _) hC hNC hK hP hD hS hA rfl hl.1 rfl (Nat.le_of_ble_eq_true rfl) ⟨by show _ ≤ 8800; omega, by show _ ≤ 52800; omega⟩ dL_night_29 (fun H locs hP hD hS => ?_)
      have hP : va_P D vwCl (WIN T v B O g ln un nx pl f0 f1 f2) H := hP
      have hD : va_D A (WIN T v B O g ln un nx pl f0 f1 f2) := hD
      refine lv_lstore_n (lv' := [(1, .long (stC (O 0) N K C)), (0, .ref (v 0))]) hx hb dL_night_32 rfl hl (by decide) rfl (fun ls hl => ?_)
      refine lv_aload_n hx hb dL_night_33 rfl (lv_at hl 1 rfl) ?_
      refine rdV (As := []) (rest := []) ⟨hx, hb, hml, hown, hts⟩ (c_X9_complaintCount l D T v B O g ln un nx pl f0 f1 f2 ) (cwV 0 hts (gC gl_X9_complaintCount) rfl rfl rfl (by decide +kernel) ⟨Nat.le_of_ble_eq_true rfl, Nat.le_of_ble_eq_true rfl⟩) hK hP 0 rfl rfl rfl hl.1 rfl (Nat.le_of_ble_eq_true rfl) ⟨by show _ ≤ 8800; omega, by show _ ≤ 52800; omega⟩ dL_night_34 ?_
      refine endI (r := nI N) (hN) ?_
      refine lv_istore_n (lv' := [(3, .int (nI N)), (1, .long (stC (O 0) N K C)), (0, .ref (v 0))]) hx hb dL_night_37 rfl hl (by decide) rfl (fun ls hl => ?_)
      refine lv_aload_n hx hb dL_night_38 rfl (lv_at hl 2 rfl) ?_
      refine rdV (As := []) (rest := []) ⟨hx, hb, hml, hown, hts⟩ (c_X9_night l D T v B O g ln un nx pl f0 f1 f2 ) (cwV 0 hts (gC gl_X9_night) rfl rfl rfl (by decide +kernel) ⟨Nat.le_of_ble_eq_true rfl, Nat.le_of_ble_eq_true rfl⟩) hK hP 0 rfl rfl rfl hl.1 rfl (Nat.le_of_ble_eq_true rfl) ⟨by show _ ≤ 8800; omega, by show _ ≤ 52800; omega⟩ dL_night_39 ?_
      refine endI (r := nI nt) (hn) ?_
      refine lv_istore (lv' := [(4, .int (nI nt)), (3, .int (nI N)), (1, .long (stC (O 0) N K C)), (0, .ref (v 0))]) hx hb dL_night_42 hl (by decide) rfl (fun ls hl => ?_)
      refine lv_aload_n hx hb dL_night_44 rfl (lv_at hl 3 rfl) ?_
      refine wrVi (As := []) (rest := []) ⟨hx, hb, hml, hown, hts⟩ (c_X9_answersTonight l D T v B O g ln un nx pl f0 f1 f2 N K C nt hOI _) (cwV 0 hts (gC gl_X9_answersTonight) rfl rfl rfl (by decide +kernel) ⟨Nat.le_of_ble_eq_true rfl, Nat.le_of_ble_eq_true rfl⟩) (Foc.rfl _ _) hK hP hD hS hA 0 rfl rfl rfl hl.1 rfl (Nat.le_of_ble_eq_true rfl) ⟨by show _ ≤ 8800; omega, by show _ ≤ 52800; omega⟩ dL_night_45 (fun H locs hP hD hS => ?_)
      have hP : va_P D vwCl (WIN T v B (va_up O 1 (nightC N K C nt (O 0)).2) g ln un nx pl f0 f1 f2) H := hP
      have hD : va_D A (WIN T v B (va_up O 1 (nightC N K C nt (O 0)).2) g ln un nx pl f0 f1 f2) := hD
      have hOa : ∃ O1, O1 = va_up O 1 (nightC N K C nt (O 0)).2 := ⟨_, rfl⟩
      obtain ⟨O1, hO1e⟩ := hOa
      rw [← hO1e] at hP hD
      have hO1 : O1 0 = O 0 := by rw [hO1e]; rfl
      have hG1 : GW O1 un nx f2 := hG.same (fun i hi => by rw [hO1e]; exact if_neg hi)
      have hOI1 : OI (O1 0) N K C nt := by rw [hO1]; exact hOI
      have hOV1 : OV (O1 0) N K C nt := by rw [hO1]; exact hOV
      have hP : va_P D vwCl (WIN T v B O1 g ln un nx pl f0 f1 f2) H := hP
      have hD : va_D A (WIN T v B O1 g ln un nx pl f0 f1 f2) := hD
      refine lv_istore (lv' := [(5, .int ((nightC N K C nt (O 0)).1)), (4, .int (nI nt)), (3, .int (nI N)), (1, .long (stC (O 0) N K C)), (0, .ref (v 0))]) hx hb dL_night_48 hl (by decide) rfl (fun ls hl => ?_)
      refine lv_aload_n hx hb dL_night_50 rfl (lv_at hl 4 rfl) ?_
      refine rdV (As := []) (rest := []) ⟨hx, hb, hml, hown, hts⟩ (c_X9_oilCost l D T v B O1 g ln un nx pl f0 f1 f2 N K C nt hOI1) (cwV 0 hts (gC gl_X9_oilCost) rfl rfl rfl (by decide +kernel) ⟨Nat.le_of_ble_eq_true rfl, Nat.le_of_ble_eq_true rfl⟩) hK hP 0 rfl rfl rfl hl.1 rfl (Nat.le_of_ble_eq_true rfl) ⟨by show _ ≤ 8800; omega, by show _ ≤ 52800; omega⟩ dL_night_51 ?_
      refine endI (r := costC C nt (O 0)) (by rw [hO1]) ?_
      refine endI (r := nI cc) (hcost) ?_
      refine lv_istore (lv' := [(6, .int (nI cc)), (5, .int ((nightC N K C nt (O 0)).1)), (4, .int (nI nt)), (3, .int (nI N)), (1, .long (stC (O 0) N K C)), (0, .ref (v 0))]) hx hb dL_night_54 hl (by decide) rfl (fun ls hl => ?_)
      refine lv_aload_n hx hb dL_night_56 rfl (lv_at hl 5 rfl) ?_
      refine rdV (As := []) (rest := []) ⟨hx, hb, hml, hown, hts⟩ (c_X9_oilUsed l D T v B O1 g ln un nx pl f0 f1 f2 ) (cwV 0 hts (gC gl_X9_oilUsed) rfl rfl rfl (by decide +kernel) ⟨Nat.le_of_ble_eq_true rfl, Nat.le_of_ble_eq_true rfl⟩) hK hP 0 rfl rfl rfl hl.1 rfl (Nat.le_of_ble_eq_true rfl) ⟨by show _ ≤ 8800; omega, by show _ ≤ 52800; omega⟩ dL_night_57 ?_
      refine endI (r := (O 0) 0 6) (by rw [hO1]) ?_
      refine lv_istore (lv' := [(7, .int ((O 0) 0 6)), (6, .int (nI cc)), (5, .int ((nightC N K C nt (O 0)).1)), (4, .int (nI nt)), (3, .int (nI N)), (1, .long (stC (O 0) N K C)), (0, .ref (v 0))]) hx hb dL_night_60 hl (by decide) rfl (fun ls hl => ?_)
      refine lv_aload_n hx hb dL_night_62 rfl (lv_at hl 6 rfl) ?_
      refine rdV (As := []) (rest := []) ⟨hx, hb, hml, hown, hts⟩ (c_X9_answeredCount l D T v B O1 g ln un nx pl f0 f1 f2 N K C nt hOI1) (cwV 0 hts (gC gl_X9_answeredCount) rfl rfl rfl (by decide +kernel) ⟨Nat.le_of_ble_eq_true rfl, Nat.le_of_ble_eq_true rfl⟩) hK hP 0 rfl rfl rfl hl.1 rfl (Nat.le_of_ble_eq_true rfl) ⟨by show _ ≤ 8800; omega, by show _ ≤ 52800; omega⟩ dL_night_63 ?_
      refine endI (r := cntC (O 0) 1 N) (by rw [hO1]) ?_
      refine lv_aload_n hx hb dL_night_66 rfl (lv_at hl 6 rfl) ?_
      refine rdV (As := []) (rest := [.int (cntC (O 0) 1 N)]) ⟨hx, hb, hml, hown, hts⟩ (c_X9_dismissedCount l D T v B O1 g ln un nx pl f0 f1 f2 N K C nt hOI1) (cwV 0 hts (gC gl_X9_dismissedCount) rfl rfl rfl (by decide +kernel) ⟨Nat.le_of_ble_eq_true rfl, Nat.le_of_ble_eq_true rfl⟩) hK hP 0 rfl rfl rfl hl.1 rfl (Nat.le_of_ble_eq_true rfl) ⟨by show _ ≤ 8800; omega, by show _ ≤ 52800; omega⟩ dL_night_67 ?_
      refine endI (r := cntC (O 0) 2 N) (by rw [hO1]) ?_
      refine lv_iadd hx hb dL_night_70 ?_
      refine lv_istore (lv' := [(8, .int ((cntC (O 0) 1 N) + (cntC (O 0) 2 N))), (7, .int ((O 0) 0 6)), (6, .int (nI cc)), (5, .int ((nightC N K C nt (O 0)).1)), (4, .int (nI nt)), (3, .int (nI N)), (1, .long (stC (O 0) N K C)), (0, .ref (v 0))]) hx hb dL_night_71 hl (by decide) rfl (fun ls hl => ?_)
      refine lv_bipush (v := 24) hx hb dL_night_73 (by decide) ?_
      refine newI hx hb k126 hK hP hD hS hA (n := 24) (N' := 24) (by decide) (by decide) (by decide) (by show _ ≤ 8800; omega) (by show _ ≤ 52800; omega) dL_night_75 (fun q75 H hP hD hS => ?_)
      obtain ⟨hP, hD⟩ := wFront hP hD
      have hP : va_P D vwCl ((q75, .inl (T 0, 24, .inl (fun _ => 0))) :: WIN T v B O1 g ln un nx pl f0 f1 f2) H := hP
      have hD : va_D A ((q75, .inl (T 0, 24, .inl (fun _ => 0))) :: WIN T v B O1 g ln un nx pl f0 f1 f2) := hD
      refine lv_astore (lv' := [(9, .ref (q75)), (8, .int ((cntC (O 0) 1 N) + (cntC (O 0) 2 N))), (7, .int ((O 0) 0 6)), (6, .int (nI cc)), (5, .int ((nightC N K C nt (O 0)).1)), (4, .int (nI nt)), (3, .int (nI N)), (1, .long (stC (O 0) N K C)), (0, .ref (v 0))]) hx hb dL_night_77 hl (by decide) rfl (fun ls hl => ?_)
      refine lv_bipush (v := 24) hx hb dL_night_79 (by decide) ?_
      refine newI hx hb k126 hK hP hD hS hA (n := 24) (N' := 24) (by decide) (by decide) (by decide) (by show _ ≤ 8800; omega) (by show _ ≤ 52800; omega) dL_night_81 (fun q81 H hP hD hS => ?_)
      obtain ⟨hP, hD⟩ := wFront hP hD
      have hP : va_P D vwCl ((q81, .inl (T 0, 24, .inl (fun _ => 0))) :: (q75, .inl (T 0, 24, .inl (fun _ => 0))) :: WIN T v B O1 g ln un nx pl f0 f1 f2) H := hP
      have hD : va_D A ((q81, .inl (T 0, 24, .inl (fun _ => 0))) :: (q75, .inl (T 0, 24, .inl (fun _ => 0))) :: WIN T v B O1 g ln un nx pl f0 f1 f2) := hD
      refine lv_astore (lv' := [(10, .ref (q81)), (9, .ref (q75)), (8, .int ((cntC (O 0) 1 N) + (cntC (O 0) 2 N))), (7, .int ((O 0) 0 6)), (6, .int (nI cc)), (5, .int ((nightC N K C nt (O 0)).1)), (4, .int (nI nt)), (3, .int (nI N)), (1, .long (stC (O 0) N K C)), (0, .ref (v 0))]) hx hb dL_night_83 hl (by decide) rfl (fun ls hl => ?_)
      refine lv_iconst (v := 5) hx hb dL_night_85 (by decide) ?_
      refine newI hx hb k126 hK hP hD hS hA (n := 5) (N' := 5) (by decide) (by decide) (by decide) (by show _ ≤ 8800; omega) (by show _ ≤ 52800; omega) dL_night_86 (fun q86 H hP hD hS => ?_)
      obtain ⟨hP, hD⟩ := wFront hP hD
      have hP : va_P D vwCl ((q86, .inl (T 0, 5, .inl (fun _ => 0))) :: (q81, .inl (T 0, 24, .inl (fun _ => 0))) :: (q75, .inl (T 0, 24, .inl (fun _ => 0))) :: WIN T v B O1 g ln un nx pl f0 f1 f2) H := hP
      have hD : va_D A ((q86, .inl (T 0, 5, .inl (fun _ => 0))) :: (q81, .inl (T 0, 24, .inl (fun _ => 0))) :: (q75, .inl (T 0, 24, .inl (fun _ => 0))) :: WIN T v B O1 g ln un nx pl f0 f1 f2) := hD
      refine lv_astore (lv' := [(11, .ref (q86)), (10, .ref (q81)), (9, .ref (q75)), (8, .int ((cntC (O 0) 1 N) + (cntC (O 0) 2 N))), (7, .int ((O 0) 0 6)), (6, .int (nI cc)), (5, .int ((nightC N K C nt (O 0)).1)), (4, .int (nI nt)), (3, .int (nI N)), (1, .long (stC (O 0) N K C)), (0, .ref (v 0))]) hx hb dL_night_88 hl (by decide) rfl (fun ls hl => ?_)
      refine lv_aload_n hx hb dL_night_90 rfl (lv_at hl 10 rfl) ?_
      refine lv_bipush (v := 8) hx hb dL_night_91 (by decide) ?_
      refine lv_iconst (v := 0) hx hb dL_night_93 (by decide) ?_
      refine lqSi (As := [.ref (v 0), .int (8), .int (0)]) (rest := []) ⟨hx, hb, hml, hown, hts⟩ (c_ask_bad80 l hl9 D T aK aV v B O1 g ln un nx pl f0 f1 f2 N K C nt hOI1 hG1.un8 hG1.nx8 _) (va_cwS 3 hts (gC gl_L_call__) rfl rfl rfl (by decide +kernel) ⟨Nat.le_of_ble_eq_true rfl, Nat.le_of_ble_eq_true rfl⟩) (Foc.pre [(q86, .inl (T 0, 5, .inl (fun _ => 0))), (q81, .inl (T 0, 24, .inl (fun _ => 0))), (q75, .inl (T 0, 24, .inl (fun _ => 0)))] _ _) hC hNC hK hP hD hS hA rfl hl.1 rfl (Nat.le_of_ble_eq_true rfl) ⟨by show _ ≤ 8800; omega, by show _ ≤ 52800; omega⟩ dL_night_94 (fun H locs hP hD hS => ?_)
      have hP : va_P D vwCl ((q86, .inl (T 0, 5, .inl (fun _ => 0))) :: (q81, .inl (T 0, 24, .inl (fun _ => 0))) :: (q75, .inl (T 0, 24, .inl (fun _ => 0))) :: WIN T v B O1 g ln un nx pl f0 f1 f2) H := hP
      have hD : va_D A ((q86, .inl (T 0, 5, .inl (fun _ => 0))) :: (q81, .inl (T 0, 24, .inl (fun _ => 0))) :: (q75, .inl (T 0, 24, .inl (fun _ => 0))) :: WIN T v B O1 g ln un nx pl f0 f1 f2) := hD
      refine lv_bipush (v := -103) hx hb dL_night_97 (by decide) ?_
      refine lv_icmp_ne (tgt := 128) hx hb dL_night_99 (by decide) (fun c99 => ?_) (fun c99 => ?_)
      ·
        exact absurd c99 (by decide)
      ·
        refine lv_aload_n hx hb dL_night_102 rfl (lv_at hl 10 rfl) ?_
        refine lv_bipush (v := 8) hx hb dL_night_103 (by decide) ?_
        refine lv_bipush (v := 61) hx hb dL_night_105 (by decide) ?_
        refine lqSi (As := [.ref (v 0), .int (8), .int (61)]) (rest := []) ⟨hx, hb, hml, hown, hts⟩ (c_ask_bad861 l hl9 D T aK aV v B O1 g ln un nx pl f0 f1 f2 N K C nt hOI1 hG1.un8 hG1.nx8 _) (va_cwS 3 hts (gC gl_L_call__) rfl rfl rfl (by decide +kernel) ⟨Nat.le_of_ble_eq_true rfl, Nat.le_of_ble_eq_true rfl⟩) (Foc.pre [(q86, .inl (T 0, 5, .inl (fun _ => 0))), (q81, .inl (T 0, 24, .inl (fun _ => 0))), (q75, .inl (T 0, 24, .inl (fun _ => 0)))] _ _) hC hNC hK hP hD hS hA rfl hl.1 rfl (Nat.le_of_ble_eq_true rfl) ⟨by show _ ≤ 8800; omega, by show _ ≤ 52800; omega⟩ dL_night_107 (fun H locs hP hD hS => ?_)
        have hP : va_P D vwCl ((q86, .inl (T 0, 5, .inl (fun _ => 0))) :: (q81, .inl (T 0, 24, .inl (fun _ => 0))) :: (q75, .inl (T 0, 24, .inl (fun _ => 0))) :: WIN T v B O1 g ln un nx pl f0 f1 f2) H := hP
        have hD : va_D A ((q86, .inl (T 0, 5, .inl (fun _ => 0))) :: (q81, .inl (T 0, 24, .inl (fun _ => 0))) :: (q75, .inl (T 0, 24, .inl (fun _ => 0))) :: WIN T v B O1 g ln un nx pl f0 f1 f2) := hD
        refine lv_bipush (v := -103) hx hb dL_night_110 (by decide) ?_
        refine lv_icmp_ne (tgt := 128) hx hb dL_night_112 (by decide) (fun c112 => ?_) (fun c112 => ?_)
        ·
          exact absurd c112 (by decide)
        ·
          refine lv_aload_n hx hb dL_night_115 rfl (lv_at hl 10 rfl) ?_
          refine lqSl (As := [.ref (v 0)]) (rest := []) ⟨hx, hb, hml, hown, hts⟩ (c_L_state l hl9 D T aK aV v B O1 g ln un nx pl f0 f1 f2 N K C nt hOI1 _) (va_cwS 1 hts (gC gl_L_state) rfl rfl rfl (by decide +kernel) ⟨Nat.le_of_ble_eq_true rfl, Nat.le_of_ble_eq_true rfl⟩) (Foc.pre [(q86, .inl (T 0, 5, .inl (fun _ => 0))), (q81, .inl (T 0, 24, .inl (fun _ => 0))), (q75, .inl (T 0, 24, .inl (fun _ => 0)))] _ _) hC hNC hK hP hD hS hA rfl hl.1 rfl (Nat.le_of_ble_eq_true rfl) ⟨by show _ ≤ 8800; omega, by show _ ≤ 52800; omega⟩ dL_night_116 (fun H locs hP hD hS => ?_)
          have hP : va_P D vwCl ((q86, .inl (T 0, 5, .inl (fun _ => 0))) :: (q81, .inl (T 0, 24, .inl (fun _ => 0))) :: (q75, .inl (T 0, 24, .inl (fun _ => 0))) :: WIN T v B O1 g ln un nx pl f0 f1 f2) H := hP
          have hD : va_D A ((q86, .inl (T 0, 5, .inl (fun _ => 0))) :: (q81, .inl (T 0, 24, .inl (fun _ => 0))) :: (q75, .inl (T 0, 24, .inl (fun _ => 0))) :: WIN T v B O1 g ln un nx pl f0 f1 f2) := hD
          refine endL (r := stC (O 0) N K C) (by rw [hO1]) ?_
          refine lv_lload_n hx hb dL_night_119 rfl (lv_at hl 9 rfl) ?_
          refine W.lcmp hx hb dL_night_120 ?_
          refine endI (r := 0) ((lg_cmp_eq _ _).mpr rfl) ?_
          refine lv_if_ne (tgt := 128) hx hb dL_night_121 (by decide) (fun c121 => ?_) (fun c121 => ?_)
          ·
            exact absurd c121 (by decide)
          ·
            refine lv_iconst (v := 1) hx hb dL_night_124 (by decide) ?_
            refine lv_goto (tgt := 129) hx hb dL_night_125 (by decide) ?_
            refine lv_istore (lv' := [(12, .int (1)), (11, .ref (q86)), (10, .ref (q81)), (9, .ref (q75)), (8, .int ((cntC (O 0) 1 N) + (cntC (O 0) 2 N))), (7, .int ((O 0) 0 6)), (6, .int (nI cc)), (5, .int ((nightC N K C nt (O 0)).1)), (4, .int (nI nt)), (3, .int (nI N)), (1, .long (stC (O 0) N K C)), (0, .ref (v 0))]) hx hb dL_night_129 hl (by decide) rfl (fun ls hl => ?_)
            refine lv_iconst (v := 0) hx hb dL_night_131 (by decide) ?_
            refine lv_istore (lv' := [(13, .int (0)), (12, .int (1)), (11, .ref (q86)), (10, .ref (q81)), (9, .ref (q75)), (8, .int ((cntC (O 0) 1 N) + (cntC (O 0) 2 N))), (7, .int ((O 0) 0 6)), (6, .int (nI cc)), (5, .int ((nightC N K C nt (O 0)).1)), (4, .int (nI nt)), (3, .int (nI N)), (1, .long (stC (O 0) N K C)), (0, .ref (v 0))]) hx hb dL_night_132 hl (by decide) rfl (fun ls hl => ?_)
            have L134 : ∀ (n9 : Nat) (ka : Nat) (fw : Nat → Int32) (fa : Nat → Int32) (cb1 sb1 : Nat), (N - ka) < n9 → (ka ≤ N) → (∀ i, i < ka → fw i = bI (decide ((O 0) 8 i = 0))) → (∀ i, i < ka → fa i = (O 0) 6 i) → cb1 ≤ 0 + 2811 + 8 * ka → sb1 ≤ 0 + 16901 + 48 * ka → ∀ (H : Heap) (locs : List Loc) (ls : Array Slot), va_P D vwCl ((q86, .inl (T 0, 5, .inl (fun _ => 0))) :: (q81, .inl (T 0, 24, .inl fa)) :: (q75, .inl (T 0, 24, .inl fw)) :: WIN T v B O1 g ln un nx pl f0 f1 f2) H → va_D A ((q86, .inl (T 0, 5, .inl (fun _ => 0))) :: (q81, .inl (T 0, 24, .inl fa)) :: (q75, .inl (T 0, 24, .inl fw)) :: WIN T v B O1 g ln un nx pl f0 f1 f2) → va_S A s.heap H locs → lv_has ls 17 [(13, .int (nI ka)), (12, .int (1)), (11, .ref (q86)), (10, .ref (q81)), (9, .ref (q75)), (8, .int ((cntC (O 0) 1 N) + (cntC (O 0) 2 N))), (7, .int ((O 0) 0 6)), (6, .int (nI cc)), (5, .int ((nightC N K C nt (O 0)).1)), (4, .int (nI nt)), (3, .int (nI N)), (1, .long (stC (O 0) N K C)), (0, .ref (v 0))] → W p l e ({ frames := 13, cells := 8800, slots := 52800, locals := 303 } : Room) s m args below meth c H locs cb1 sb1 Q (F0 m 134 ls []) := by
              intro n9
              induction n9 with
              | zero => intro ka fw fa cb1 sb1 hm9; exact absurd hm9 (Nat.not_lt_zero _)
              | succ n9 ih134 =>
                intro ka fw fa cb1 sb1 hm9 hka hfw hfa hcb1 hsb1 H locs ls hP hD hS hl
                refine lv_iload hx hb dL_night_134 (lv_at hl 0 rfl) ?_
                refine lv_iload_n hx hb dL_night_136 rfl (lv_at hl 10 rfl) ?_
                refine lv_icmp_ge (tgt := 172) hx hb dL_night_137 (by decide) (fun c137 => ?_) (fun c137 => ?_)
                ·
                  have c137 : N ≤ ka := (nI_leI (a := N) (b := ka) (by omega) (by omega)).mp c137
                  have hfw9 : ∀ i, i < N → fw i = bI (decide ((O 0) 8 i = 0)) := fun i hi => hfw i (by omega)
                  have hfa9 : ∀ i, i < N → fa i = (O 0) 6 i := fun i hi => hfa i (by omega)
                  refine lv_iconst (v := 0) hx hb dL_night_172 (by decide) ?_
                  refine lv_istore (lv' := [(13, .int (0)), (12, .int (1)), (11, .ref (q86)), (10, .ref (q81)), (9, .ref (q75)), (8, .int ((cntC (O 0) 1 N) + (cntC (O 0) 2 N))), (7, .int ((O 0) 0 6)), (6, .int (nI cc)), (5, .int ((nightC N K C nt (O 0)).1)), (4, .int (nI nt)), (3, .int (nI N)), (1, .long (stC (O 0) N K C)), (0, .ref (v 0))]) hx hb dL_night_173 hl (by decide) rfl (fun ls hl => ?_)
                  have L175 : ∀ (n9 : Nat) (kb : Nat) (fo : Nat → Int32) (cb2 sb2 : Nat), (K - kb) < n9 → (kb ≤ K) → (∀ i, i < kb → fo i = (O 0) 3 i) → cb2 ≤ 0 + 2811 + 8 * ka + 0 + 4 * kb → sb2 ≤ 0 + 16901 + 48 * ka + 0 + 24 * kb → ∀ (H : Heap) (locs : List Loc) (ls : Array Slot), va_P D vwCl ((q86, .inl (T 0, 5, .inl fo)) :: (q81, .inl (T 0, 24, .inl fa)) :: (q75, .inl (T 0, 24, .inl fw)) :: WIN T v B O1 g ln un nx pl f0 f1 f2) H → va_D A ((q86, .inl (T 0, 5, .inl fo)) :: (q81, .inl (T 0, 24, .inl fa)) :: (q75, .inl (T 0, 24, .inl fw)) :: WIN T v B O1 g ln un nx pl f0 f1 f2) → va_S A s.heap H locs → lv_has ls 17 [(13, .int (nI kb)), (12, .int (1)), (11, .ref (q86)), (10, .ref (q81)), (9, .ref (q75)), (8, .int ((cntC (O 0) 1 N) + (cntC (O 0) 2 N))), (7, .int ((O 0) 0 6)), (6, .int (nI cc)), (5, .int ((nightC N K C nt (O 0)).1)), (4, .int (nI nt)), (3, .int (nI N)), (1, .long (stC (O 0) N K C)), (0, .ref (v 0))] → W p l e ({ frames := 13, cells := 8800, slots := 52800, locals := 303 } : Room) s m args below meth c H locs cb2 sb2 Q (F0 m 175 ls []) := by
                    intro n9
                    induction n9 with
                    | zero => intro kb fo cb2 sb2 hm9; exact absurd hm9 (Nat.not_lt_zero _)
                    | succ n9 ih175 =>
                      intro kb fo cb2 sb2 hm9 hkb hfo hcb2 hsb2 H locs ls hP hD hS hl
                      refine lv_iload hx hb dL_night_175 (lv_at hl 0 rfl) ?_
                      refine lv_aload_n hx hb dL_night_177 rfl (lv_at hl 12 rfl) ?_
                      refine rdV (As := []) (rest := [.int (nI kb)]) ⟨hx, hb, hml, hown, hts⟩ (c_X9_clerkCount l D T v B O1 g ln un nx pl f0 f1 f2 ) (cwV 0 hts (gC gl_X9_clerkCount) rfl rfl rfl (by decide +kernel) ⟨Nat.le_of_ble_eq_true rfl, Nat.le_of_ble_eq_true rfl⟩) hK (wTail (x := [(q86, .inl (T 0, 5, .inl fo)), (q81, .inl (T 0, 24, .inl fa)), (q75, .inl (T 0, 24, .inl fw))]) hP hD).1 0 rfl rfl rfl hl.1 rfl (Nat.le_of_ble_eq_true rfl) ⟨by show _ ≤ 8800; omega, by show _ ≤ 52800; omega⟩ dL_night_178 ?_
                      refine endI (r := (O 0) 0 5) (by rw [hO1]) ?_
                      refine endI (r := nI K) (hKn) ?_
                      refine lv_icmp_ge (tgt := 203) hx hb dL_night_181 (by decide) (fun c181 => ?_) (fun c181 => ?_)
                      ·
                        have c181 : K ≤ kb := (nI_leI (a := K) (b := kb) (by omega) (by omega)).mp c181
                        have hfo9 : ∀ i, i < K → fo i = (O 0) 3 i := fun i hi => hfo i (by omega)
                        refine lv_iload hx hb dL_night_203 (lv_at hl 1 rfl) ?_
                        refine lv_if_eq (tgt := 235) hx hb dL_night_205 (by decide) (fun c205 => ?_) (fun c205 => ?_)
                        ·
                          exact absurd c205 (by decide)
                        ·
                          refine lv_aload_n hx hb dL_night_208 rfl (lv_at hl 12 rfl) ?_
                          refine lv_bipush (v := 8) hx hb dL_night_209 (by decide) ?_
                          refine lv_iconst (v := 1) hx hb dL_night_211 (by decide) ?_
                          refine lcSi (S := S3) (ws1 := fun u => ((q86, .inl (T 0, 5, .inl fo)) :: (q81, .inl (T 0, 24, .inl fa)) :: (q75, .inl (T 0, 24, .inl fw)) :: WIN T v B u.1 g ln u.2.1 u.2.2 pl f0 f1 f2 : va_W)) (wc1 := fun u => WIN T v B u.1 g ln u.2.1 u.2.2 pl f0 f1 f2) (As := [.ref (v 0), .int (8), .int (1)]) (rest := []) ⟨hx, hb, hml, hown, hts⟩ (c_ex_ends l hl9 D T aK aV v B O1 g ln un nx pl f0 f1 f2 1 N K C nt hOV1 hG1 (by omega) (by omega) (by omega) _) (va_cwS 3 hts (gC gl_L_call__) rfl rfl rfl (by decide +kernel) ⟨Nat.le_of_ble_eq_true rfl, Nat.le_of_ble_eq_true rfl⟩) (fun u => Foc.pre [(q86, .inl (T 0, 5, .inl fo)), (q81, .inl (T 0, 24, .inl fa)), (q75, .inl (T 0, 24, .inl fw))] _ _) (Foc.pre [(q86, .inl (T 0, 5, .inl fo)), (q81, .inl (T 0, 24, .inl fa)), (q75, .inl (T 0, 24, .inl fw))] _ _) hC hNC hK hP hD hS hA rfl hl.1 rfl (Nat.le_of_ble_eq_true rfl) ⟨by show _ ≤ 8800; omega, by show _ ≤ 52800; omega⟩ dL_night_212 (fun r9 u H locs hr hP hD hS => ?_)
                          obtain ⟨O2, un2, nx2⟩ := u
                          obtain ⟨hr, hO2, hG2, hu2, htop2⟩ := hr
                          replace hr : r9 = (iter (endsC N K C nt) 1 0 (0, O1 0)).1 := hr
                          replace hO2 : O2 0 = on := by rw [← hon, ← hO1]; exact hO2
                          replace htop2 : O2 (3 + (nx2 + 7) % 8) = O 0 := by rw [← hO1]; exact htop2
                          replace hG2 : GW O2 un2 nx2 f2 := hG2
                          replace hu2 : 0 < un2 := hu2
                          have hOV2 : OV (O2 0) N K C (nt + 1) := by rw [hO2]; exact hOVn
                          have hOI2 := hOV2.oi
                          replace hr : r9 = (nightC N K C nt (O 0)).1 := by rw [hr, hO1]; exact Int32.zero_add _
                          subst hr
                          have hP : va_P D vwCl ((q86, .inl (T 0, 5, .inl fo)) :: (q81, .inl (T 0, 24, .inl fa)) :: (q75, .inl (T 0, 24, .inl fw)) :: WIN T v B O2 g ln un2 nx2 pl f0 f1 f2) H := hP
                          have hD : va_D A ((q86, .inl (T 0, 5, .inl fo)) :: (q81, .inl (T 0, 24, .inl fa)) :: (q75, .inl (T 0, 24, .inl fw)) :: WIN T v B O2 g ln un2 nx2 pl f0 f1 f2) := hD
                          refine lv_iload hx hb dL_night_215 (lv_at hl 8 rfl) ?_
                          refine lv_icmp_ne (tgt := 235) hx hb dL_night_217 (by decide) (fun c217 => ?_) (fun c217 => ?_)
                          ·
                            exact absurd rfl c217
                          ·
                            refine lv_aload_n hx hb dL_night_220 rfl (lv_at hl 12 rfl) ?_
                            refine rdV (As := []) (rest := []) ⟨hx, hb, hml, hown, hts⟩ (c_X9_night l D T v B O2 g ln un2 nx2 pl f0 f1 f2 ) (cwV 0 hts (gC gl_X9_night) rfl rfl rfl (by decide +kernel) ⟨Nat.le_of_ble_eq_true rfl, Nat.le_of_ble_eq_true rfl⟩) hK (wTail (x := [(q86, .inl (T 0, 5, .inl fo)), (q81, .inl (T 0, 24, .inl fa)), (q75, .inl (T 0, 24, .inl fw))]) hP hD).1 0 rfl rfl rfl hl.1 rfl (Nat.le_of_ble_eq_true rfl) ⟨by show _ ≤ 8800; omega, by show _ ≤ 52800; omega⟩ dL_night_221 ?_
                            refine endI (r := on 0 0) (by rw [hO2]) ?_
                            refine endI (r := nI (nt + 1)) (hnn) ?_
                            refine lv_iload hx hb dL_night_224 (lv_at hl 9 rfl) ?_
                            refine lv_iconst (v := 1) hx hb dL_night_226 (by decide) ?_
                            refine lv_iadd hx hb dL_night_227 ?_
                            refine endI (r := nI (nt + 1)) (nI_add _ _) ?_
                            refine lv_icmp_ne (tgt := 235) hx hb dL_night_228 (by decide) (fun c228 => ?_) (fun c228 => ?_)
                            ·
                              exact absurd rfl c228
                            ·
                              refine lv_iconst (v := 1) hx hb dL_night_231 (by decide) ?_
                              refine lv_goto (tgt := 236) hx hb dL_night_232 (by decide) ?_
                              refine lv_istore (lv' := [(12, .int (1)), (13, .int (nI kb)), (11, .ref (q86)), (10, .ref (q81)), (9, .ref (q75)), (8, .int ((cntC (O 0) 1 N) + (cntC (O 0) 2 N))), (7, .int ((O 0) 0 6)), (6, .int (nI cc)), (5, .int ((nightC N K C nt (O 0)).1)), (4, .int (nI nt)), (3, .int (nI N)), (1, .long (stC (O 0) N K C)), (0, .ref (v 0))]) hx hb dL_night_236 hl (by decide) rfl (fun ls hl => ?_)
                              refine lv_iconst (v := 5) hx hb dL_night_238 (by decide) ?_
                              refine newI hx hb k126 hK hP hD hS hA (n := 5) (N' := 5) (by decide) (by decide) (by decide) (by show _ ≤ 8800; omega) (by show _ ≤ 52800; omega) dL_night_239 (fun q239 H hP hD hS => ?_)
                              obtain ⟨hP, hD⟩ := wFront hP hD
                              have hP : va_P D vwCl ((q239, .inl (T 0, 5, .inl (fun _ => 0))) :: (q86, .inl (T 0, 5, .inl fo)) :: (q81, .inl (T 0, 24, .inl fa)) :: (q75, .inl (T 0, 24, .inl fw)) :: WIN T v B O2 g ln un2 nx2 pl f0 f1 f2) H := hP
                              have hD : va_D A ((q239, .inl (T 0, 5, .inl (fun _ => 0))) :: (q86, .inl (T 0, 5, .inl fo)) :: (q81, .inl (T 0, 24, .inl fa)) :: (q75, .inl (T 0, 24, .inl fw)) :: WIN T v B O2 g ln un2 nx2 pl f0 f1 f2) := hD
                              refine lv_astore (lv' := [(13, .ref (q239)), (12, .int (1)), (11, .ref (q86)), (10, .ref (q81)), (9, .ref (q75)), (8, .int ((cntC (O 0) 1 N) + (cntC (O 0) 2 N))), (7, .int ((O 0) 0 6)), (6, .int (nI cc)), (5, .int ((nightC N K C nt (O 0)).1)), (4, .int (nI nt)), (3, .int (nI N)), (1, .long (stC (O 0) N K C)), (0, .ref (v 0))]) hx hb dL_night_241 hl (by decide) rfl (fun ls hl => ?_)
                              refine lv_iconst (v := 0) hx hb dL_night_243 (by decide) ?_
                              refine lv_istore (lv' := [(14, .int (0)), (13, .ref (q239)), (12, .int (1)), (11, .ref (q86)), (10, .ref (q81)), (9, .ref (q75)), (8, .int ((cntC (O 0) 1 N) + (cntC (O 0) 2 N))), (7, .int ((O 0) 0 6)), (6, .int (nI cc)), (5, .int ((nightC N K C nt (O 0)).1)), (4, .int (nI nt)), (3, .int (nI N)), (1, .long (stC (O 0) N K C)), (0, .ref (v 0))]) hx hb dL_night_244 hl (by decide) rfl (fun ls hl => ?_)
                              have L246 : ∀ (n9 : Nat) (k : Nat) (fh : Nat → Int32) (cb3 sb3 : Nat), (N - k) < n9 → (k ≤ N) → (∀ j, j < K → fh j = nI (cN (fun i => decide ((O 0) 8 i = 0) && decide (on 10 i = nI j)) k)) → cb3 ≤ 0 + 2811 + 8 * ka + 0 + 4 * kb + 5 + 48 * k → sb3 ≤ 0 + 16901 + 48 * ka + 0 + 24 * kb + 29 + 288 * k → ∀ (H : Heap) (locs : List Loc) (ls : Array Slot), va_P D vwCl ((q239, .inl (T 0, 5, .inl fh)) :: (q86, .inl (T 0, 5, .inl fo)) :: (q81, .inl (T 0, 24, .inl fa)) :: (q75, .inl (T 0, 24, .inl fw)) :: WIN T v B O2 g ln un2 nx2 pl f0 f1 f2) H → va_D A ((q239, .inl (T 0, 5, .inl fh)) :: (q86, .inl (T 0, 5, .inl fo)) :: (q81, .inl (T 0, 24, .inl fa)) :: (q75, .inl (T 0, 24, .inl fw)) :: WIN T v B O2 g ln un2 nx2 pl f0 f1 f2) → va_S A s.heap H locs → lv_has ls 17 [(14, .int (nI k)), (13, .ref (q239)), (12, .int (1)), (11, .ref (q86)), (10, .ref (q81)), (9, .ref (q75)), (8, .int ((cntC (O 0) 1 N) + (cntC (O 0) 2 N))), (7, .int ((O 0) 0 6)), (6, .int (nI cc)), (5, .int ((nightC N K C nt (O 0)).1)), (4, .int (nI nt)), (3, .int (nI N)), (1, .long (stC (O 0) N K C)), (0, .ref (v 0))] → W p l e ({ frames := 13, cells := 8800, slots := 52800, locals := 303 } : Room) s m args below meth c H locs cb3 sb3 Q (F0 m 246 ls []) := by
                                intro n9
                                induction n9 with
                                | zero => intro k fh cb3 sb3 hm9; exact absurd hm9 (Nat.not_lt_zero _)
                                | succ n9 ih246 =>
                                  intro k fh cb3 sb3 hm9 hk hfh hcb3 hsb3 H locs ls hP hD hS hl
                                  refine lv_iload hx hb dL_night_246 (lv_at hl 0 rfl) ?_
                                  refine lv_iload_n hx hb dL_night_248 rfl (lv_at hl 11 rfl) ?_
                                  refine lv_icmp_ge (tgt := 567) hx hb dL_night_249 (by decide) (fun c249 => ?_) (fun c249 => ?_)
                                  ·
                                    have c249 : N ≤ k := (nI_leI (a := N) (b := k) (by omega) (by omega)).mp c249
                                    have hkN : k = N := by omega
                                    have hfh9 : ∀ j, j < K → fh j = nI (cN (fun i => decide ((O 0) 8 i = 0) && decide (on 10 i = nI j)) N) := by rw [← hkN]; exact hfh
                                    refine lv_iconst (v := 0) hx hb dL_night_567 (by decide) ?_
                                    refine lv_istore (lv' := [(14, .int (0)), (13, .ref (q239)), (12, .int (1)), (11, .ref (q86)), (10, .ref (q81)), (9, .ref (q75)), (8, .int ((cntC (O 0) 1 N) + (cntC (O 0) 2 N))), (7, .int ((O 0) 0 6)), (6, .int (nI cc)), (5, .int ((nightC N K C nt (O 0)).1)), (4, .int (nI nt)), (3, .int (nI N)), (1, .long (stC (O 0) N K C)), (0, .ref (v 0))]) hx hb dL_night_568 hl (by decide) rfl (fun ls hl => ?_)
                                    refine lv_iconst (v := 0) hx hb dL_night_570 (by decide) ?_
                                    refine lv_istore (lv' := [(15, .int (0)), (14, .int (0)), (13, .ref (q239)), (12, .int (1)), (11, .ref (q86)), (10, .ref (q81)), (9, .ref (q75)), (8, .int ((cntC (O 0) 1 N) + (cntC (O 0) 2 N))), (7, .int ((O 0) 0 6)), (6, .int (nI cc)), (5, .int ((nightC N K C nt (O 0)).1)), (4, .int (nI nt)), (3, .int (nI N)), (1, .long (stC (O 0) N K C)), (0, .ref (v 0))]) hx hb dL_night_571 hl (by decide) rfl (fun ls hl => ?_)
                                    have L573 : ∀ (n9 : Nat) (k2 : Nat) (al : Nat) (cb4 sb4 : Nat), (K - k2) < n9 → (k2 ≤ K) → (al = sN (hnd (O 0) on N) k2) → cb4 ≤ 0 + 2811 + 8 * ka + 0 + 4 * kb + 5 + 48 * k + 0 + 16 * k2 → sb4 ≤ 0 + 16901 + 48 * ka + 0 + 24 * kb + 29 + 288 * k + 0 + 96 * k2 → ∀ (H : Heap) (locs : List Loc) (ls : Array Slot), va_P D vwCl ((q239, .inl (T 0, 5, .inl fh)) :: (q86, .inl (T 0, 5, .inl fo)) :: (q81, .inl (T 0, 24, .inl fa)) :: (q75, .inl (T 0, 24, .inl fw)) :: WIN T v B O2 g ln un2 nx2 pl f0 f1 f2) H → va_D A ((q239, .inl (T 0, 5, .inl fh)) :: (q86, .inl (T 0, 5, .inl fo)) :: (q81, .inl (T 0, 24, .inl fa)) :: (q75, .inl (T 0, 24, .inl fw)) :: WIN T v B O2 g ln un2 nx2 pl f0 f1 f2) → va_S A s.heap H locs → lv_has ls 17 [(15, .int (nI k2)), (14, .int (nI al)), (13, .ref (q239)), (12, .int (1)), (11, .ref (q86)), (10, .ref (q81)), (9, .ref (q75)), (8, .int ((cntC (O 0) 1 N) + (cntC (O 0) 2 N))), (7, .int ((O 0) 0 6)), (6, .int (nI cc)), (5, .int ((nightC N K C nt (O 0)).1)), (4, .int (nI nt)), (3, .int (nI N)), (1, .long (stC (O 0) N K C)), (0, .ref (v 0))] → W p l e ({ frames := 13, cells := 8800, slots := 52800, locals := 303 } : Room) s m args below meth c H locs cb4 sb4 Q (F0 m 573 ls []) := by
                                      intro n9
                                      induction n9 with
                                      | zero => intro k2 al cb4 sb4 hm9; exact absurd hm9 (Nat.not_lt_zero _)
                                      | succ n9 ih573 =>
                                        intro k2 al cb4 sb4 hm9 hk2 hal hcb4 hsb4 H locs ls hP hD hS hl
                                        have hfh : ∀ j, j < K → fh j = nI (cN (fun i => decide ((O 0) 8 i = 0) && decide (on 10 i = nI j)) N) := hfh9
                                        refine lv_iload hx hb dL_night_573 (lv_at hl 0 rfl) ?_
                                        refine lv_aload_n hx hb dL_night_575 rfl (lv_at hl 14 rfl) ?_
                                        refine rdV (As := []) (rest := [.int (nI k2)]) ⟨hx, hb, hml, hown, hts⟩ (c_X9_clerkCount l D T v B O2 g ln un2 nx2 pl f0 f1 f2 ) (cwV 0 hts (gC gl_X9_clerkCount) rfl rfl rfl (by decide +kernel) ⟨Nat.le_of_ble_eq_true rfl, Nat.le_of_ble_eq_true rfl⟩) hK (wTail (x := [(q239, .inl (T 0, 5, .inl fh)), (q86, .inl (T 0, 5, .inl fo)), (q81, .inl (T 0, 24, .inl fa)), (q75, .inl (T 0, 24, .inl fw))]) hP hD).1 0 rfl rfl rfl hl.1 rfl (Nat.le_of_ble_eq_true rfl) ⟨by show _ ≤ 8800; omega, by show _ ≤ 52800; omega⟩ dL_night_576 ?_
                                        refine endI (r := on 0 5) (by rw [hO2]) ?_
                                        refine endI (r := nI K) (hKnn) ?_
                                        refine lv_icmp_ge (tgt := 666) hx hb dL_night_579 (by decide) (fun c579 => ?_) (fun c579 => ?_)
                                        ·
                                          have c579 : K ≤ k2 := (nI_leI (a := K) (b := k2) (by omega) (by omega)).mp c579
                                          have hal9 : al = sN (hnd (O 0) on N) K := by rw [hal, show k2 = K by omega]
                                          refine lv_iload hx hb dL_night_666 (lv_at hl 3 rfl) ?_
                                          refine lv_if_eq (tgt := 733) hx hb dL_night_668 (by decide) (fun c668 => ?_) (fun c668 => ?_)
                                          ·
                                            exact absurd c668 (by decide)
                                          ·
                                            refine lv_aload_n hx hb dL_night_671 rfl (lv_at hl 14 rfl) ?_
                                            refine rdV (As := []) (rest := []) ⟨hx, hb, hml, hown, hts⟩ (c_X9_answeredCount l D T v B O2 g ln un2 nx2 pl f0 f1 f2 N K C (nt + 1) hOI2) (cwV 0 hts (gC gl_X9_answeredCount) rfl rfl rfl (by decide +kernel) ⟨Nat.le_of_ble_eq_true rfl, Nat.le_of_ble_eq_true rfl⟩) hK (wTail (x := [(q239, .inl (T 0, 5, .inl fh)), (q86, .inl (T 0, 5, .inl fo)), (q81, .inl (T 0, 24, .inl fa)), (q75, .inl (T 0, 24, .inl fw))]) hP hD).1 0 rfl rfl rfl hl.1 rfl (Nat.le_of_ble_eq_true rfl) ⟨by show _ ≤ 8800; omega, by show _ ≤ 52800; omega⟩ dL_night_672 ?_
                                            refine endI (r := cntC on 1 N) (by rw [hO2]) ?_
                                            refine lv_aload_n hx hb dL_night_675 rfl (lv_at hl 14 rfl) ?_
                                            refine rdV (As := []) (rest := [.int (cntC on 1 N)]) ⟨hx, hb, hml, hown, hts⟩ (c_X9_dismissedCount l D T v B O2 g ln un2 nx2 pl f0 f1 f2 N K C (nt + 1) hOI2) (cwV 0 hts (gC gl_X9_dismissedCount) rfl rfl rfl (by decide +kernel) ⟨Nat.le_of_ble_eq_true rfl, Nat.le_of_ble_eq_true rfl⟩) hK (wTail (x := [(q239, .inl (T 0, 5, .inl fh)), (q86, .inl (T 0, 5, .inl fo)), (q81, .inl (T 0, 24, .inl fa)), (q75, .inl (T 0, 24, .inl fw))]) hP hD).1 0 rfl rfl rfl hl.1 rfl (Nat.le_of_ble_eq_true rfl) ⟨by show _ ≤ 8800; omega, by show _ ≤ 52800; omega⟩ dL_night_676 ?_
                                            refine endI (r := cntC on 2 N) (by rw [hO2]) ?_
                                            refine lv_iadd hx hb dL_night_679 ?_
                                            refine endI (r := ((cntC (O 0) 1 N) + (cntC (O 0) 2 N)) + (nI al)) (by rw [hal9]; exact hcnts) ?_
                                            refine lv_iload hx hb dL_night_680 (lv_at hl 7 rfl) ?_
                                            refine lv_iload hx hb dL_night_682 (lv_at hl 1 rfl) ?_
                                            refine lv_iadd hx hb dL_night_684 ?_
                                            refine lv_icmp_ne (tgt := 733) hx hb dL_night_685 (by decide) (fun c685 => ?_) (fun c685 => ?_)
                                            ·
                                              exact absurd rfl c685
                                            ·
                                              refine lv_aload_n hx hb dL_night_688 rfl (lv_at hl 14 rfl) ?_
                                              refine rdV (As := []) (rest := []) ⟨hx, hb, hml, hown, hts⟩ (c_X9_oilUsed l D T v B O2 g ln un2 nx2 pl f0 f1 f2 ) (cwV 0 hts (gC gl_X9_oilUsed) rfl rfl rfl (by decide +kernel) ⟨Nat.le_of_ble_eq_true rfl, Nat.le_of_ble_eq_true rfl⟩) hK (wTail (x := [(q239, .inl (T 0, 5, .inl fh)), (q86, .inl (T 0, 5, .inl fo)), (q81, .inl (T 0, 24, .inl fa)), (q75, .inl (T 0, 24, .inl fw))]) hP hD).1 0 rfl rfl rfl hl.1 rfl (Nat.le_of_ble_eq_true rfl) ⟨by show _ ≤ 8800; omega, by show _ ≤ 52800; omega⟩ dL_night_689 ?_
                                              refine endI (r := on 0 6) (by rw [hO2]) ?_
                                              refine endI (r := ((O 0) 0 6) + (nI (cc * al))) (by rw [hal9]; exact hused) ?_
                                              refine lv_iload hx hb dL_night_692 (lv_at hl 8 rfl) ?_
                                              refine lv_iload hx hb dL_night_694 (lv_at hl 9 rfl) ?_
                                              refine lv_iload hx hb dL_night_696 (lv_at hl 1 rfl) ?_
                                              refine lv_imul hx hb dL_night_698 ?_
                                              refine endI (r := nI (cc * al)) (pk_mul _ _) ?_
                                              refine lv_iadd hx hb dL_night_699 ?_
                                              refine lv_icmp_ne (tgt := 733) hx hb dL_night_700 (by decide) (fun c700 => ?_) (fun c700 => ?_)
                                              ·
                                                exact absurd rfl c700
                                              ·
                                                refine lv_aload_n hx hb dL_night_703 rfl (lv_at hl 14 rfl) ?_
                                                refine lqSi (As := [.ref (v 0)]) (rest := []) ⟨hx, hb, hml, hown, hts⟩ (c_L_books l hl9 D T aK aV v B O2 g ln un2 nx2 pl f0 f1 f2 N K C (nt + 1) hOI2 hOV2 (by omega) _) (va_cwS 1 hts (gC gl_L_books) rfl rfl rfl (by decide +kernel) ⟨Nat.le_of_ble_eq_true rfl, Nat.le_of_ble_eq_true rfl⟩) (Foc.pre [(q239, .inl (T 0, 5, .inl fh)), (q86, .inl (T 0, 5, .inl fo)), (q81, .inl (T 0, 24, .inl fa)), (q75, .inl (T 0, 24, .inl fw))] _ _) hC hNC hK hP hD hS hA rfl hl.1 rfl (Nat.le_of_ble_eq_true rfl) ⟨by show _ ≤ 8800; omega, by show _ ≤ 52800; omega⟩ dL_night_704 (fun H locs hP hD hS => ?_)
                                                have hP : va_P D vwCl ((q239, .inl (T 0, 5, .inl fh)) :: (q86, .inl (T 0, 5, .inl fo)) :: (q81, .inl (T 0, 24, .inl fa)) :: (q75, .inl (T 0, 24, .inl fw)) :: WIN T v B O2 g ln un2 nx2 pl f0 f1 f2) H := hP
                                                have hD : va_D A ((q239, .inl (T 0, 5, .inl fh)) :: (q86, .inl (T 0, 5, .inl fo)) :: (q81, .inl (T 0, 24, .inl fa)) :: (q75, .inl (T 0, 24, .inl fw)) :: WIN T v B O2 g ln un2 nx2 pl f0 f1 f2) := hD
                                                refine lv_if_eq (tgt := 733) hx hb dL_night_707 (by decide) (fun c707 => ?_) (fun c707 => ?_)
                                                ·
                                                  exact absurd c707 (by decide)
                                                ·
                                                  refine lv_aload_n hx hb dL_night_710 rfl (lv_at hl 14 rfl) ?_
                                                  refine lv_bipush (v := 9) hx hb dL_night_711 (by decide) ?_
                                                  refine lv_iconst (v := 0) hx hb dL_night_713 (by decide) ?_
                                                  refine lcSi (S := S3) (ws1 := fun u => ((q239, .inl (T 0, 5, .inl fh)) :: (q86, .inl (T 0, 5, .inl fo)) :: (q81, .inl (T 0, 24, .inl fa)) :: (q75, .inl (T 0, 24, .inl fw)) :: WIN T v B u.1 g ln u.2.1 u.2.2 pl f0 f1 f2 : va_W)) (wc1 := fun u => WIN T v B u.1 g ln u.2.1 u.2.2 pl f0 f1 f2) (As := [.ref (v 0), .int (9), .int (0)]) (rest := []) ⟨hx, hb, hml, hown, hts⟩ (c_ex_undo l hl9 D T aK aV v B O2 g ln un2 nx2 pl f0 f1 f2 N K C (nt + 1) hG2 hu2 _) (va_cwS 3 hts (gC gl_L_call__) rfl rfl rfl (by decide +kernel) ⟨Nat.le_of_ble_eq_true rfl, Nat.le_of_ble_eq_true rfl⟩) (fun u => Foc.pre [(q239, .inl (T 0, 5, .inl fh)), (q86, .inl (T 0, 5, .inl fo)), (q81, .inl (T 0, 24, .inl fa)), (q75, .inl (T 0, 24, .inl fw))] _ _) (Foc.pre [(q239, .inl (T 0, 5, .inl fh)), (q86, .inl (T 0, 5, .inl fo)), (q81, .inl (T 0, 24, .inl fa)), (q75, .inl (T 0, 24, .inl fw))] _ _) hC hNC hK hP hD hS hA rfl hl.1 rfl (Nat.le_of_ble_eq_true rfl) ⟨by show _ ≤ 8800; omega, by show _ ≤ 52800; omega⟩ dL_night_714 (fun r9 u H locs hr hP hD hS => ?_)
                                                  obtain ⟨O3, un3, nx3⟩ := u
                                                  obtain ⟨hr, hO3, hG3⟩ := hr
                                                  replace hO3 : O3 0 = O 0 := hO3.trans htop2
                                                  replace hG3 : GW O3 un3 nx3 f2 := hG3
                                                  have hOV3 : OV (O3 0) N K C nt := by rw [hO3]; exact hOV
                                                  have hOI3 := hOV3.oi
                                                  replace hr : r9 = nI (un2 - 1) := hr
                                                  subst hr
                                                  have hun2 := hG2.un8
                                                  have hP : va_P D vwCl ((q239, .inl (T 0, 5, .inl fh)) :: (q86, .inl (T 0, 5, .inl fo)) :: (q81, .inl (T 0, 24, .inl fa)) :: (q75, .inl (T 0, 24, .inl fw)) :: WIN T v B O3 g ln un3 nx3 pl f0 f1 f2) H := hP
                                                  have hD : va_D A ((q239, .inl (T 0, 5, .inl fh)) :: (q86, .inl (T 0, 5, .inl fo)) :: (q81, .inl (T 0, 24, .inl fa)) :: (q75, .inl (T 0, 24, .inl fw)) :: WIN T v B O3 g ln un3 nx3 pl f0 f1 f2) := hD
                                                  refine lv_if_lt (tgt := 733) hx hb dL_night_717 (by decide) (fun c717 => ?_) (fun c717 => ?_)
                                                  ·
                                                    have c717 : (un2 - 1) < 0 := (nI_ltI (a := (un2 - 1)) (b := 0) (by omega) (by omega)).mp c717
                                                    exfalso; omega
                                                  ·
                                                    have c717 : ¬ (un2 - 1) < 0 := fun h9 => c717 ((nI_ltI (a := (un2 - 1)) (b := 0) (by omega) (by omega)).mpr h9)
                                                    refine lv_aload_n hx hb dL_night_720 rfl (lv_at hl 14 rfl) ?_
                                                    refine lqSl (As := [.ref (v 0)]) (rest := []) ⟨hx, hb, hml, hown, hts⟩ (c_L_state l hl9 D T aK aV v B O3 g ln un3 nx3 pl f0 f1 f2 N K C nt hOI3 _) (va_cwS 1 hts (gC gl_L_state) rfl rfl rfl (by decide +kernel) ⟨Nat.le_of_ble_eq_true rfl, Nat.le_of_ble_eq_true rfl⟩) (Foc.pre [(q239, .inl (T 0, 5, .inl fh)), (q86, .inl (T 0, 5, .inl fo)), (q81, .inl (T 0, 24, .inl fa)), (q75, .inl (T 0, 24, .inl fw))] _ _) hC hNC hK hP hD hS hA rfl hl.1 rfl (Nat.le_of_ble_eq_true rfl) ⟨by show _ ≤ 8800; omega, by show _ ≤ 52800; omega⟩ dL_night_721 (fun H locs hP hD hS => ?_)
                                                    have hP : va_P D vwCl ((q239, .inl (T 0, 5, .inl fh)) :: (q86, .inl (T 0, 5, .inl fo)) :: (q81, .inl (T 0, 24, .inl fa)) :: (q75, .inl (T 0, 24, .inl fw)) :: WIN T v B O3 g ln un3 nx3 pl f0 f1 f2) H := hP
                                                    have hD : va_D A ((q239, .inl (T 0, 5, .inl fh)) :: (q86, .inl (T 0, 5, .inl fo)) :: (q81, .inl (T 0, 24, .inl fa)) :: (q75, .inl (T 0, 24, .inl fw)) :: WIN T v B O3 g ln un3 nx3 pl f0 f1 f2) := hD
                                                    refine endL (r := stC (O 0) N K C) (by rw [hO3]) ?_
                                                    refine lv_lload_n hx hb dL_night_724 rfl (lv_at hl 13 rfl) ?_
                                                    refine W.lcmp hx hb dL_night_725 ?_
                                                    refine endI (r := 0) ((lg_cmp_eq _ _).mpr rfl) ?_
                                                    refine lv_if_ne (tgt := 733) hx hb dL_night_726 (by decide) (fun c726 => ?_) (fun c726 => ?_)
                                                    ·
                                                      exact absurd c726 (by decide)
                                                    ·
                                                      refine lv_iconst (v := 1) hx hb dL_night_729 (by decide) ?_
                                                      refine lv_goto (tgt := 734) hx hb dL_night_730 (by decide) ?_
                                                      obtain ⟨hP, hD⟩ := wTail (x := [(q239, .inl (T 0, 5, .inl fh)), (q86, .inl (T 0, 5, .inl fo)), (q81, .inl (T 0, 24, .inl fa)), (q75, .inl (T 0, 24, .inl fw))]) hP hD
                                                      exact hret _ _ _ _ _ _ 1 (O3, un3, nx3) dL_night_734 ⟨rfl, hO3, hG3⟩ hP hD hS (by omega) (by omega)
                                        ·
                                          have c579 : ¬ K ≤ k2 := fun h9 => c579 ((nI_leI (a := K) (b := k2) (by omega) (by omega)).mpr h9)
                                          refine lv_iload hx hb dL_night_582 (lv_at hl 3 rfl) ?_
                                          refine lv_if_eq (tgt := 666) hx hb dL_night_584 (by decide) (fun c584 => ?_) (fun c584 => ?_)
                                          ·
                                            exact absurd c584 (by decide)
                                          ·
                                            obtain ⟨zz, hzz, ez1, ez2, hlim⟩ := hoils k2 (by omega)
                                            obtain ⟨SS, hSS, eS⟩ := hSKn k2 (by omega)
                                            have hlimS := hlim SS (by rw [← hr2]; exact eS) hSS
                                            refine lv_iload hx hb dL_night_587 (lv_at hl 1 rfl) ?_
                                            refine lv_aload hx hb dL_night_589 (lv_at hl 2 rfl) ?_
                                            refine lv_iload hx hb dL_night_591 (lv_at hl 0 rfl) ?_
                                            refine aldI hx hb hK hP 0 0 rfl rfl (k2) rfl (by omega) (by decide) dL_night_593 ?_
                                            refine endI (r := nI (hnd (O 0) on N k2)) (by rw [hfh k2 (by omega)]; rfl) ?_
                                            refine lv_iadd hx hb dL_night_594 ?_
                                            refine endI (r := nI (al + (hnd (O 0) on N k2))) (nI_add _ _) ?_
                                            refine lv_istore (lv' := [(14, .int (nI (al + (hnd (O 0) on N k2)))), (15, .int (nI k2)), (13, .ref (q239)), (12, .int (1)), (11, .ref (q86)), (10, .ref (q81)), (9, .ref (q75)), (8, .int ((cntC (O 0) 1 N) + (cntC (O 0) 2 N))), (7, .int ((O 0) 0 6)), (6, .int (nI cc)), (5, .int ((nightC N K C nt (O 0)).1)), (4, .int (nI nt)), (3, .int (nI N)), (1, .long (stC (O 0) N K C)), (0, .ref (v 0))]) hx hb dL_night_595 hl (by decide) rfl (fun ls hl => ?_)
                                            refine lv_aload hx hb dL_night_597 (lv_at hl 2 rfl) ?_
                                            refine lv_iload hx hb dL_night_599 (lv_at hl 1 rfl) ?_
                                            refine aldI hx hb hK hP 0 0 rfl rfl (k2) rfl (by omega) (by decide) dL_night_601 ?_
                                            refine endI (r := nI (hnd (O 0) on N k2)) (by rw [hfh k2 (by omega)]; rfl) ?_
                                            refine lv_iconst (v := 1) hx hb dL_night_602 (by decide) ?_
                                            refine lv_aload_n hx hb dL_night_603 rfl (lv_at hl 14 rfl) ?_
                                            refine lv_bipush (v := 38) hx hb dL_night_604 (by decide) ?_
                                            refine lv_iload hx hb dL_night_606 (lv_at hl 1 rfl) ?_
                                            refine lqSi (As := [.ref (v 0), .int (38), .int (nI k2)]) (rest := [.int (1), .int (nI (hnd (O 0) on N k2))]) ⟨hx, hb, hml, hown, hts⟩ (c_ask_skillOf l hl9 D T aK aV v B O2 g ln un2 nx2 pl f0 f1 f2 k2 N K C (nt + 1) hOI2 (by omega) _) (va_cwS 3 hts (gC gl_L_call__) rfl rfl rfl (by decide +kernel) ⟨Nat.le_of_ble_eq_true rfl, Nat.le_of_ble_eq_true rfl⟩) (Foc.pre [(q239, .inl (T 0, 5, .inl fh)), (q86, .inl (T 0, 5, .inl fo)), (q81, .inl (T 0, 24, .inl fa)), (q75, .inl (T 0, 24, .inl fw))] _ _) hC hNC hK hP hD hS hA rfl hl.1 rfl (Nat.le_of_ble_eq_true rfl) ⟨by show _ ≤ 8800; omega, by show _ ≤ 52800; omega⟩ dL_night_608 (fun H locs hP hD hS => ?_)
                                            have hP : va_P D vwCl ((q239, .inl (T 0, 5, .inl fh)) :: (q86, .inl (T 0, 5, .inl fo)) :: (q81, .inl (T 0, 24, .inl fa)) :: (q75, .inl (T 0, 24, .inl fw)) :: WIN T v B O2 g ln un2 nx2 pl f0 f1 f2) H := hP
                                            have hD : va_D A ((q239, .inl (T 0, 5, .inl fh)) :: (q86, .inl (T 0, 5, .inl fo)) :: (q81, .inl (T 0, 24, .inl fa)) :: (q75, .inl (T 0, 24, .inl fw)) :: WIN T v B O2 g ln un2 nx2 pl f0 f1 f2) := hD
                                            refine endI (r := on 2 k2) (by rw [hO2]) ?_
                                            refine endI (r := nI SS) (eS) ?_
                                            refine lv_iconst (v := 3) hx hb dL_night_611 (by decide) ?_
                                            refine lv_idiv hx hb dL_night_612 (by decide) ?_
                                            refine endI (r := nI (SS / 3)) (pk_div (a := SS) (d := 3) (by omega) (by decide) (by decide)) ?_
                                            refine lv_iadd hx hb dL_night_613 ?_
                                            refine endI (r := nI (1 + (SS / 3))) (nI_add _ _) ?_
                                            refine lv_icmp_gt (tgt := 657) hx hb dL_night_614 (by decide) (fun c614 => ?_) (fun c614 => ?_)
                                            ·
                                              have c614 : (1 + (SS / 3)) < (hnd (O 0) on N k2) := (nI_ltI (a := (1 + (SS / 3))) (b := (hnd (O 0) on N k2)) (by omega) (by omega)).mp c614
                                              exfalso; omega
                                            ·
                                              have c614 : ¬ (1 + (SS / 3)) < (hnd (O 0) on N k2) := fun h9 => c614 ((nI_ltI (a := (1 + (SS / 3))) (b := (hnd (O 0) on N k2)) (by omega) (by omega)).mpr h9)
                                              refine lv_aload_n hx hb dL_night_617 rfl (lv_at hl 14 rfl) ?_
                                              refine lv_bipush (v := 39) hx hb dL_night_618 (by decide) ?_
                                              refine lv_iload hx hb dL_night_620 (lv_at hl 1 rfl) ?_
                                              refine lqSi (As := [.ref (v 0), .int (39), .int (nI k2)]) (rest := []) ⟨hx, hb, hml, hown, hts⟩ (c_ask_oilOf l hl9 D T aK aV v B O2 g ln un2 nx2 pl f0 f1 f2 k2 N K C (nt + 1) hOI2 (by omega) _) (va_cwS 3 hts (gC gl_L_call__) rfl rfl rfl (by decide +kernel) ⟨Nat.le_of_ble_eq_true rfl, Nat.le_of_ble_eq_true rfl⟩) (Foc.pre [(q239, .inl (T 0, 5, .inl fh)), (q86, .inl (T 0, 5, .inl fo)), (q81, .inl (T 0, 24, .inl fa)), (q75, .inl (T 0, 24, .inl fw))] _ _) hC hNC hK hP hD hS hA rfl hl.1 rfl (Nat.le_of_ble_eq_true rfl) ⟨by show _ ≤ 8800; omega, by show _ ≤ 52800; omega⟩ dL_night_622 (fun H locs hP hD hS => ?_)
                                              have hP : va_P D vwCl ((q239, .inl (T 0, 5, .inl fh)) :: (q86, .inl (T 0, 5, .inl fo)) :: (q81, .inl (T 0, 24, .inl fa)) :: (q75, .inl (T 0, 24, .inl fw)) :: WIN T v B O2 g ln un2 nx2 pl f0 f1 f2) H := hP
                                              have hD : va_D A ((q239, .inl (T 0, 5, .inl fh)) :: (q86, .inl (T 0, 5, .inl fo)) :: (q81, .inl (T 0, 24, .inl fa)) :: (q75, .inl (T 0, 24, .inl fw)) :: WIN T v B O2 g ln un2 nx2 pl f0 f1 f2) := hD
                                              refine endI (r := on 3 k2) (by rw [hO2]) ?_
                                              refine endI (r := nI zz) (ez1) ?_
                                              refine lv_aload hx hb dL_night_625 (lv_at hl 4 rfl) ?_
                                              refine lv_iload hx hb dL_night_627 (lv_at hl 1 rfl) ?_
                                              refine aldI hx hb hK hP 1 0 rfl rfl (k2) rfl (by omega) (by decide) dL_night_629 ?_
                                              refine endI (r := nI (zz + cc * hnd (O 0) on N k2)) (by rw [hfo9 k2 (by omega)]; exact ez2) ?_
                                              refine lv_iload hx hb dL_night_630 (lv_at hl 9 rfl) ?_
                                              refine lv_aload hx hb dL_night_632 (lv_at hl 2 rfl) ?_
                                              refine lv_iload hx hb dL_night_634 (lv_at hl 1 rfl) ?_
                                              refine aldI hx hb hK hP 0 0 rfl rfl (k2) rfl (by omega) (by decide) dL_night_636 ?_
                                              refine endI (r := nI (hnd (O 0) on N k2)) (by rw [hfh k2 (by omega)]; rfl) ?_
                                              refine lv_imul hx hb dL_night_637 ?_
                                              refine endI (r := nI (cc * hnd (O 0) on N k2)) (pk_mul _ _) ?_
                                              refine lv_isub hx hb dL_night_638 ?_
                                              refine endI (r := nI ((zz + cc * hnd (O 0) on N k2) - (cc * hnd (O 0) on N k2))) (pk_sub (a := zz + cc * hnd (O 0) on N k2) (b := cc * hnd (O 0) on N k2) (by omega)) ?_
                                              refine lv_icmp_ne (tgt := 657) hx hb dL_night_639 (by decide) (fun c639 => ?_) (fun c639 => ?_)
                                              ·
                                                have c639 : ¬ zz = ((zz + cc * hnd (O 0) on N k2) - (cc * hnd (O 0) on N k2)) := fun h9 => c639 ((nI_eq (a := zz) (b := ((zz + cc * hnd (O 0) on N k2) - (cc * hnd (O 0) on N k2))) (by omega) (by omega)).mpr h9)
                                                exfalso; omega
                                              ·
                                                have c639 : zz = ((zz + cc * hnd (O 0) on N k2) - (cc * hnd (O 0) on N k2)) := (nI_eq (a := zz) (b := ((zz + cc * hnd (O 0) on N k2) - (cc * hnd (O 0) on N k2))) (by omega) (by omega)).mp c639
                                                refine lv_aload_n hx hb dL_night_642 rfl (lv_at hl 14 rfl) ?_
                                                refine lv_bipush (v := 39) hx hb dL_night_643 (by decide) ?_
                                                refine lv_iload hx hb dL_night_645 (lv_at hl 1 rfl) ?_
                                                refine lqSi (As := [.ref (v 0), .int (39), .int (nI k2)]) (rest := []) ⟨hx, hb, hml, hown, hts⟩ (c_ask_oilOf l hl9 D T aK aV v B O2 g ln un2 nx2 pl f0 f1 f2 k2 N K C (nt + 1) hOI2 (by omega) _) (va_cwS 3 hts (gC gl_L_call__) rfl rfl rfl (by decide +kernel) ⟨Nat.le_of_ble_eq_true rfl, Nat.le_of_ble_eq_true rfl⟩) (Foc.pre [(q239, .inl (T 0, 5, .inl fh)), (q86, .inl (T 0, 5, .inl fo)), (q81, .inl (T 0, 24, .inl fa)), (q75, .inl (T 0, 24, .inl fw))] _ _) hC hNC hK hP hD hS hA rfl hl.1 rfl (Nat.le_of_ble_eq_true rfl) ⟨by show _ ≤ 8800; omega, by show _ ≤ 52800; omega⟩ dL_night_647 (fun H locs hP hD hS => ?_)
                                                have hP : va_P D vwCl ((q239, .inl (T 0, 5, .inl fh)) :: (q86, .inl (T 0, 5, .inl fo)) :: (q81, .inl (T 0, 24, .inl fa)) :: (q75, .inl (T 0, 24, .inl fw)) :: WIN T v B O2 g ln un2 nx2 pl f0 f1 f2) H := hP
                                                have hD : va_D A ((q239, .inl (T 0, 5, .inl fh)) :: (q86, .inl (T 0, 5, .inl fo)) :: (q81, .inl (T 0, 24, .inl fa)) :: (q75, .inl (T 0, 24, .inl fw)) :: WIN T v B O2 g ln un2 nx2 pl f0 f1 f2) := hD
                                                refine endI (r := on 3 k2) (by rw [hO2]) ?_
                                                refine endI (r := nI zz) (ez1) ?_
                                                refine lv_if_lt (tgt := 657) hx hb dL_night_650 (by decide) (fun c650 => ?_) (fun c650 => ?_)
                                                ·
                                                  have c650 : zz < 0 := (nI_ltI (a := zz) (b := 0) (by omega) (by omega)).mp c650
                                                  exfalso; omega
                                                ·
                                                  have c650 : ¬ zz < 0 := fun h9 => c650 ((nI_ltI (a := zz) (b := 0) (by omega) (by omega)).mpr h9)
                                                  refine lv_iconst (v := 1) hx hb dL_night_653 (by decide) ?_
                                                  refine lv_goto (tgt := 658) hx hb dL_night_654 (by decide) ?_
                                                  refine lv_istore (lv' := [(12, .int (1)), (14, .int (nI (al + (hnd (O 0) on N k2)))), (15, .int (nI k2)), (13, .ref (q239)), (11, .ref (q86)), (10, .ref (q81)), (9, .ref (q75)), (8, .int ((cntC (O 0) 1 N) + (cntC (O 0) 2 N))), (7, .int ((O 0) 0 6)), (6, .int (nI cc)), (5, .int ((nightC N K C nt (O 0)).1)), (4, .int (nI nt)), (3, .int (nI N)), (1, .long (stC (O 0) N K C)), (0, .ref (v 0))]) hx hb dL_night_658 hl (by decide) rfl (fun ls hl => ?_)
                                                  refine lv_iinc (v := nI (k2 + 1)) (lv' := [(15, .int (nI (k2 + 1))), (12, .int (1)), (14, .int (nI (al + (hnd (O 0) on N k2)))), (13, .ref (q239)), (11, .ref (q86)), (10, .ref (q81)), (9, .ref (q75)), (8, .int ((cntC (O 0) 1 N) + (cntC (O 0) 2 N))), (7, .int ((O 0) 0 6)), (6, .int (nI cc)), (5, .int ((nightC N K C nt (O 0)).1)), (4, .int (nI nt)), (3, .int (nI N)), (1, .long (stC (O 0) N K C)), (0, .ref (v 0))]) hx hb dL_night_660 hl (k := 2) rfl (nI_1 _) (by decide) rfl (fun ls hl => ?_)
                                                  refine lv_goto (tgt := 573) hx hb dL_night_663 (by decide) ?_
                                                  exact ih573 (k2 + 1) (al + (hnd (O 0) on N k2)) _ _ (by omega) (by omega) (by rw [hal]; rfl) (by omega) (by omega) _ _ _ hP hD hS (lv_sub hl [0, 2, 3, 1, 4, 5, 6, 7, 8, 9, 10, 11, 12, 13, 14] rfl)
                                    exact L573 _ 0 0 _ _ (Nat.lt_succ_self _) (by omega) (by rfl) (by omega) (by omega) _ _ _ hP hD hS (lv_sub hl [0, 1, 2, 3, 4, 5, 6, 7, 8, 9, 10, 11, 12, 13, 14] rfl)
                                  ·
                                    have c249 : ¬ N ≤ k := fun h9 => c249 ((nI_leI (a := N) (b := k) (by omega) (by omega)).mpr h9)
                                    refine lv_iload hx hb dL_night_252 (lv_at hl 2 rfl) ?_
                                    refine lv_if_eq (tgt := 567) hx hb dL_night_254 (by decide) (fun c254 => ?_) (fun c254 => ?_)
                                    ·
                                      exact absurd c254 (by decide)
                                    ·
                                      obtain ⟨pp, qq, aa, ff, hpp, hqq, haa, ha9, hff, e4, e5, e6, e7, hst⟩ := hOV.co k (by omega)
                                      have hw56 : (O 0) 8 k = 0 → nt < ff + 56 := by
                                          intro h8
                                          rcases hst with ⟨-, -, hw⟩ | ⟨c9, -, -, -, -, ⟨e8, -⟩ | ⟨e8, -⟩ | ⟨e8, -⟩⟩
                                          · exact hw
                                          · rw [h8] at e8; exact absurd e8 (by decide)
                                          · rw [h8] at e8; exact absurd e8 (by decide)
                                          · rw [h8] at e8; exact absurd e8 (by decide)
                                      clear hst
                                      have hi9 := incA_le aa
                                      have hg9 := angN_le (g := nt + 1 - ff) ha9
                                      rcases hNK k (by omega) with ⟨n0, m8, m9, m10, m6⟩ | ⟨n0, m6, m9, ⟨jj, hjj, m10⟩, ⟨m8, mj⟩ | ⟨m8, m14⟩⟩ | ⟨n0, m10, mm⟩
                                      ·
                                        refine lv_iload hx hb dL_night_257 (lv_at hl 10 rfl) ?_
                                        refine lv_iconst (v := 1) hx hb dL_night_259 (by decide) ?_
                                        refine lv_iadd hx hb dL_night_260 ?_
                                        refine endI (r := nI (nt + 1)) (nI_add _ _) ?_
                                        refine lv_aload_n hx hb dL_night_261 rfl (lv_at hl 13 rfl) ?_
                                        refine lv_bipush (v := 26) hx hb dL_night_262 (by decide) ?_
                                        refine lv_iload hx hb dL_night_264 (lv_at hl 0 rfl) ?_
                                        refine lqSi (As := [.ref (v 0), .int (26), .int (nI k)]) (rest := [.int (nI (nt + 1))]) ⟨hx, hb, hml, hown, hts⟩ (c_ask_filedIn l hl9 D T aK aV v B O2 g ln un2 nx2 pl f0 f1 f2 k N K C (nt + 1) hOI2 (by omega) _) (va_cwS 3 hts (gC gl_L_call__) rfl rfl rfl (by decide +kernel) ⟨Nat.le_of_ble_eq_true rfl, Nat.le_of_ble_eq_true rfl⟩) (Foc.pre [(q239, .inl (T 0, 5, .inl fh)), (q86, .inl (T 0, 5, .inl fo)), (q81, .inl (T 0, 24, .inl fa)), (q75, .inl (T 0, 24, .inl fw))] _ _) hC hNC hK hP hD hS hA rfl hl.1 rfl (Nat.le_of_ble_eq_true rfl) ⟨by show _ ≤ 8800; omega, by show _ ≤ 52800; omega⟩ dL_night_266 (fun H locs hP hD hS => ?_)
                                        have hP : va_P D vwCl ((q239, .inl (T 0, 5, .inl fh)) :: (q86, .inl (T 0, 5, .inl fo)) :: (q81, .inl (T 0, 24, .inl fa)) :: (q75, .inl (T 0, 24, .inl fw)) :: WIN T v B O2 g ln un2 nx2 pl f0 f1 f2) H := hP
                                        have hD : va_D A ((q239, .inl (T 0, 5, .inl fh)) :: (q86, .inl (T 0, 5, .inl fo)) :: (q81, .inl (T 0, 24, .inl fa)) :: (q75, .inl (T 0, 24, .inl fw)) :: WIN T v B O2 g ln un2 nx2 pl f0 f1 f2) := hD
                                        refine endI (r := on 7 k) (by rw [hO2]) ?_
                                        refine endI (r := nI ff) (by rw [hr7]; exact e7) ?_
                                        refine lv_isub hx hb dL_night_269 ?_
                                        refine endI (r := nI ((nt + 1) - ff)) (pk_sub (a := nt + 1) (b := ff) (by omega)) ?_
                                        refine lv_istore (lv' := [(15, .int (nI ((nt + 1) - ff))), (14, .int (nI k)), (13, .ref (q239)), (12, .int (1)), (11, .ref (q86)), (10, .ref (q81)), (9, .ref (q75)), (8, .int ((cntC (O 0) 1 N) + (cntC (O 0) 2 N))), (7, .int ((O 0) 0 6)), (6, .int (nI cc)), (5, .int ((nightC N K C nt (O 0)).1)), (4, .int (nI nt)), (3, .int (nI N)), (1, .long (stC (O 0) N K C)), (0, .ref (v 0))]) hx hb dL_night_270 hl (by decide) rfl (fun ls hl => ?_)
                                        refine lv_aload hx hb dL_night_272 (lv_at hl 6 rfl) ?_
                                        refine lv_iload hx hb dL_night_274 (lv_at hl 1 rfl) ?_
                                        refine aldI hx hb hK hP 3 0 rfl rfl (k) rfl (by omega) (by decide) dL_night_276 ?_
                                        refine endI (r := 0) (by rw [hfw9 k (by omega), decide_eq_false n0]; rfl) ?_
                                        refine lv_if_ne (tgt := 317) hx hb dL_night_277 (by decide) (fun c277 => ?_) (fun c277 => ?_)
                                        ·
                                          exact absurd c277 (by decide)
                                        ·
                                          refine lv_aload_n hx hb dL_night_280 rfl (lv_at hl 14 rfl) ?_
                                          refine lv_bipush (v := 27) hx hb dL_night_281 (by decide) ?_
                                          refine lv_iload hx hb dL_night_283 (lv_at hl 1 rfl) ?_
                                          refine lqSi (As := [.ref (v 0), .int (27), .int (nI k)]) (rest := []) ⟨hx, hb, hml, hown, hts⟩ (c_ask_isWaiting l hl9 D T aK aV v B O2 g ln un2 nx2 pl f0 f1 f2 k N K C (nt + 1) hOI2 (by omega) _) (va_cwS 3 hts (gC gl_L_call__) rfl rfl rfl (by decide +kernel) ⟨Nat.le_of_ble_eq_true rfl, Nat.le_of_ble_eq_true rfl⟩) (Foc.pre [(q239, .inl (T 0, 5, .inl fh)), (q86, .inl (T 0, 5, .inl fo)), (q81, .inl (T 0, 24, .inl fa)), (q75, .inl (T 0, 24, .inl fw))] _ _) hC hNC hK hP hD hS hA rfl hl.1 rfl (Nat.le_of_ble_eq_true rfl) ⟨by show _ ≤ 8800; omega, by show _ ≤ 52800; omega⟩ dL_night_285 (fun H locs hP hD hS => ?_)
                                          have hP : va_P D vwCl ((q239, .inl (T 0, 5, .inl fh)) :: (q86, .inl (T 0, 5, .inl fo)) :: (q81, .inl (T 0, 24, .inl fa)) :: (q75, .inl (T 0, 24, .inl fw)) :: WIN T v B O2 g ln un2 nx2 pl f0 f1 f2) H := hP
                                          have hD : va_D A ((q239, .inl (T 0, 5, .inl fh)) :: (q86, .inl (T 0, 5, .inl fo)) :: (q81, .inl (T 0, 24, .inl fa)) :: (q75, .inl (T 0, 24, .inl fw)) :: WIN T v B O2 g ln un2 nx2 pl f0 f1 f2) := hD
                                          refine endI (r := bI (decide (on 8 k = 0))) (by rw [hO2]) ?_
                                          refine endI (r := 0) (by rw [m8, decide_eq_false n0]; rfl) ?_
                                          refine lv_if_ne (tgt := 311) hx hb dL_night_288 (by decide) (fun c288 => ?_) (fun c288 => ?_)
                                          ·
                                            exact absurd c288 (by decide)
                                          ·
                                            refine lv_aload_n hx hb dL_night_291 rfl (lv_at hl 14 rfl) ?_
                                            refine lv_bipush (v := 25) hx hb dL_night_292 (by decide) ?_
                                            refine lv_iload hx hb dL_night_294 (lv_at hl 1 rfl) ?_
                                            refine lqSi (As := [.ref (v 0), .int (25), .int (nI k)]) (rest := []) ⟨hx, hb, hml, hown, hts⟩ (c_ask_angerOf l hl9 D T aK aV v B O2 g ln un2 nx2 pl f0 f1 f2 k N K C (nt + 1) hOI2 (by omega) _) (va_cwS 3 hts (gC gl_L_call__) rfl rfl rfl (by decide +kernel) ⟨Nat.le_of_ble_eq_true rfl, Nat.le_of_ble_eq_true rfl⟩) (Foc.pre [(q239, .inl (T 0, 5, .inl fh)), (q86, .inl (T 0, 5, .inl fo)), (q81, .inl (T 0, 24, .inl fa)), (q75, .inl (T 0, 24, .inl fw))] _ _) hC hNC hK hP hD hS hA rfl hl.1 rfl (Nat.le_of_ble_eq_true rfl) ⟨by show _ ≤ 8800; omega, by show _ ≤ 52800; omega⟩ dL_night_296 (fun H locs hP hD hS => ?_)
                                            have hP : va_P D vwCl ((q239, .inl (T 0, 5, .inl fh)) :: (q86, .inl (T 0, 5, .inl fo)) :: (q81, .inl (T 0, 24, .inl fa)) :: (q75, .inl (T 0, 24, .inl fw)) :: WIN T v B O2 g ln un2 nx2 pl f0 f1 f2) H := hP
                                            have hD : va_D A ((q239, .inl (T 0, 5, .inl fh)) :: (q86, .inl (T 0, 5, .inl fo)) :: (q81, .inl (T 0, 24, .inl fa)) :: (q75, .inl (T 0, 24, .inl fw)) :: WIN T v B O2 g ln un2 nx2 pl f0 f1 f2) := hD
                                            refine endI (r := on 6 k) (by rw [hO2]) ?_
                                            refine endI (r := nI aa) (by rw [m6]; exact e6) ?_
                                            refine lv_aload hx hb dL_night_299 (lv_at hl 5 rfl) ?_
                                            refine lv_iload hx hb dL_night_301 (lv_at hl 1 rfl) ?_
                                            refine aldI hx hb hK hP 2 0 rfl rfl (k) rfl (by omega) (by decide) dL_night_303 ?_
                                            refine endI (r := nI aa) (by rw [hfa9 k (by omega)]; exact e6) ?_
                                            refine lv_icmp_ne (tgt := 311) hx hb dL_night_304 (by decide) (fun c304 => ?_) (fun c304 => ?_)
                                            ·
                                              exact absurd rfl c304
                                            ·
                                              refine lv_iconst (v := 1) hx hb dL_night_307 (by decide) ?_
                                              refine lv_goto (tgt := 312) hx hb dL_night_308 (by decide) ?_
                                              refine lv_istore (lv' := [(12, .int (1)), (15, .int (nI ((nt + 1) - ff))), (14, .int (nI k)), (13, .ref (q239)), (11, .ref (q86)), (10, .ref (q81)), (9, .ref (q75)), (8, .int ((cntC (O 0) 1 N) + (cntC (O 0) 2 N))), (7, .int ((O 0) 0 6)), (6, .int (nI cc)), (5, .int ((nightC N K C nt (O 0)).1)), (4, .int (nI nt)), (3, .int (nI N)), (1, .long (stC (O 0) N K C)), (0, .ref (v 0))]) hx hb dL_night_312 hl (by decide) rfl (fun ls hl => ?_)
                                              refine lv_goto (tgt := 561) hx hb dL_night_314 (by decide) ?_
                                              refine lv_iinc (v := nI (k + 1)) (lv' := [(14, .int (nI (k + 1))), (12, .int (1)), (15, .int (nI ((nt + 1) - ff))), (13, .ref (q239)), (11, .ref (q86)), (10, .ref (q81)), (9, .ref (q75)), (8, .int ((cntC (O 0) 1 N) + (cntC (O 0) 2 N))), (7, .int ((O 0) 0 6)), (6, .int (nI cc)), (5, .int ((nightC N K C nt (O 0)).1)), (4, .int (nI nt)), (3, .int (nI N)), (1, .long (stC (O 0) N K C)), (0, .ref (v 0))]) hx hb dL_night_561 hl (k := 2) rfl (nI_1 _) (by decide) rfl (fun ls hl => ?_)
                                              refine lv_goto (tgt := 246) hx hb dL_night_564 (by decide) ?_
                                              exact ih246 (k + 1) fh _ _ (by omega) (by omega) (by intro j hj; have h9 := hfh j hj; first | (refine Eq.trans ?_ (h_keep h9 (by rw [decide_eq_false n0, Bool.false_and])); rfl) | (refine Eq.trans ?_ (h_keep h9 (by rw [m10, decide_eq_false (p := (-1 : Int32) = nI j) (fun e => nI_nneg (by omega) (by decide) e.symm), Bool.and_false])); rfl) | exact h_take h9 n0 m10 (by omega) (by omega)) (by omega) (by omega) _ _ _ hP hD hS (lv_sub hl [0, 3, 1, 4, 5, 6, 7, 8, 9, 10, 11, 12, 13, 14] rfl)
                                      ·
                                        have mj9 := mj qq e5 hqq
                                        refine lv_iload hx hb dL_night_257 (lv_at hl 10 rfl) ?_
                                        refine lv_iconst (v := 1) hx hb dL_night_259 (by decide) ?_
                                        refine lv_iadd hx hb dL_night_260 ?_
                                        refine endI (r := nI (nt + 1)) (nI_add _ _) ?_
                                        refine lv_aload_n hx hb dL_night_261 rfl (lv_at hl 13 rfl) ?_
                                        refine lv_bipush (v := 26) hx hb dL_night_262 (by decide) ?_
                                        refine lv_iload hx hb dL_night_264 (lv_at hl 0 rfl) ?_
                                        refine lqSi (As := [.ref (v 0), .int (26), .int (nI k)]) (rest := [.int (nI (nt + 1))]) ⟨hx, hb, hml, hown, hts⟩ (c_ask_filedIn l hl9 D T aK aV v B O2 g ln un2 nx2 pl f0 f1 f2 k N K C (nt + 1) hOI2 (by omega) _) (va_cwS 3 hts (gC gl_L_call__) rfl rfl rfl (by decide +kernel) ⟨Nat.le_of_ble_eq_true rfl, Nat.le_of_ble_eq_true rfl⟩) (Foc.pre [(q239, .inl (T 0, 5, .inl fh)), (q86, .inl (T 0, 5, .inl fo)), (q81, .inl (T 0, 24, .inl fa)), (q75, .inl (T 0, 24, .inl fw))] _ _) hC hNC hK hP hD hS hA rfl hl.1 rfl (Nat.le_of_ble_eq_true rfl) ⟨by show _ ≤ 8800; omega, by show _ ≤ 52800; omega⟩ dL_night_266 (fun H locs hP hD hS => ?_)
                                        have hP : va_P D vwCl ((q239, .inl (T 0, 5, .inl fh)) :: (q86, .inl (T 0, 5, .inl fo)) :: (q81, .inl (T 0, 24, .inl fa)) :: (q75, .inl (T 0, 24, .inl fw)) :: WIN T v B O2 g ln un2 nx2 pl f0 f1 f2) H := hP
                                        have hD : va_D A ((q239, .inl (T 0, 5, .inl fh)) :: (q86, .inl (T 0, 5, .inl fo)) :: (q81, .inl (T 0, 24, .inl fa)) :: (q75, .inl (T 0, 24, .inl fw)) :: WIN T v B O2 g ln un2 nx2 pl f0 f1 f2) := hD
                                        refine endI (r := on 7 k) (by rw [hO2]) ?_
                                        refine endI (r := nI ff) (by rw [hr7]; exact e7) ?_
                                        refine lv_isub hx hb dL_night_269 ?_
                                        refine endI (r := nI ((nt + 1) - ff)) (pk_sub (a := nt + 1) (b := ff) (by omega)) ?_
                                        refine lv_istore (lv' := [(15, .int (nI ((nt + 1) - ff))), (14, .int (nI k)), (13, .ref (q239)), (12, .int (1)), (11, .ref (q86)), (10, .ref (q81)), (9, .ref (q75)), (8, .int ((cntC (O 0) 1 N) + (cntC (O 0) 2 N))), (7, .int ((O 0) 0 6)), (6, .int (nI cc)), (5, .int ((nightC N K C nt (O 0)).1)), (4, .int (nI nt)), (3, .int (nI N)), (1, .long (stC (O 0) N K C)), (0, .ref (v 0))]) hx hb dL_night_270 hl (by decide) rfl (fun ls hl => ?_)
                                        refine lv_aload hx hb dL_night_272 (lv_at hl 6 rfl) ?_
                                        refine lv_iload hx hb dL_night_274 (lv_at hl 1 rfl) ?_
                                        refine aldI hx hb hK hP 3 0 rfl rfl (k) rfl (by omega) (by decide) dL_night_276 ?_
                                        refine endI (r := 1) (by rw [hfw9 k (by omega), decide_eq_true n0]; rfl) ?_
                                        refine lv_if_ne (tgt := 317) hx hb dL_night_277 (by decide) (fun c277 => ?_) (fun c277 => ?_)
                                        ·
                                          refine lv_aload_n hx hb dL_night_317 rfl (lv_at hl 14 rfl) ?_
                                          refine lv_bipush (v := 32) hx hb dL_night_318 (by decide) ?_
                                          refine lv_iload hx hb dL_night_320 (lv_at hl 1 rfl) ?_
                                          refine lqSi (As := [.ref (v 0), .int (32), .int (nI k)]) (rest := []) ⟨hx, hb, hml, hown, hts⟩ (c_ask_clerkOf l hl9 D T aK aV v B O2 g ln un2 nx2 pl f0 f1 f2 k N K C (nt + 1) hOI2 (by omega) _) (va_cwS 3 hts (gC gl_L_call__) rfl rfl rfl (by decide +kernel) ⟨Nat.le_of_ble_eq_true rfl, Nat.le_of_ble_eq_true rfl⟩) (Foc.pre [(q239, .inl (T 0, 5, .inl fh)), (q86, .inl (T 0, 5, .inl fo)), (q81, .inl (T 0, 24, .inl fa)), (q75, .inl (T 0, 24, .inl fw))] _ _) hC hNC hK hP hD hS hA rfl hl.1 rfl (Nat.le_of_ble_eq_true rfl) ⟨by show _ ≤ 8800; omega, by show _ ≤ 52800; omega⟩ dL_night_322 (fun H locs hP hD hS => ?_)
                                          have hP : va_P D vwCl ((q239, .inl (T 0, 5, .inl fh)) :: (q86, .inl (T 0, 5, .inl fo)) :: (q81, .inl (T 0, 24, .inl fa)) :: (q75, .inl (T 0, 24, .inl fw)) :: WIN T v B O2 g ln un2 nx2 pl f0 f1 f2) H := hP
                                          have hD : va_D A ((q239, .inl (T 0, 5, .inl fh)) :: (q86, .inl (T 0, 5, .inl fo)) :: (q81, .inl (T 0, 24, .inl fa)) :: (q75, .inl (T 0, 24, .inl fw)) :: WIN T v B O2 g ln un2 nx2 pl f0 f1 f2) := hD
                                          refine endI (r := if on 10 k = -1 then -101 else on 10 k) (by rw [hO2]) ?_
                                          refine endI (r := nI jj) (by rw [if_neg (by rw [m10]; exact nI_nneg (by omega) (by decide))]; exact m10) ?_
                                          refine lv_istore (lv' := [(16, .int (nI jj)), (15, .int (nI ((nt + 1) - ff))), (14, .int (nI k)), (13, .ref (q239)), (12, .int (1)), (11, .ref (q86)), (10, .ref (q81)), (9, .ref (q75)), (8, .int ((cntC (O 0) 1 N) + (cntC (O 0) 2 N))), (7, .int ((O 0) 0 6)), (6, .int (nI cc)), (5, .int ((nightC N K C nt (O 0)).1)), (4, .int (nI nt)), (3, .int (nI N)), (1, .long (stC (O 0) N K C)), (0, .ref (v 0))]) hx hb dL_night_325 hl (by decide) rfl (fun ls hl => ?_)
                                          refine lv_iload hx hb dL_night_327 (lv_at hl 0 rfl) ?_
                                          refine lv_if_lt (tgt := 341) hx hb dL_night_329 (by decide) (fun c329 => ?_) (fun c329 => ?_)
                                          ·
                                            have c329 : jj < 0 := (nI_ltI (a := jj) (b := 0) (by omega) (by omega)).mp c329
                                            exfalso; omega
                                          ·
                                            have c329 : ¬ jj < 0 := fun h9 => c329 ((nI_ltI (a := jj) (b := 0) (by omega) (by omega)).mpr h9)
                                            refine lv_aload hx hb dL_night_332 (lv_at hl 3 rfl) ?_
                                            refine lv_iload hx hb dL_night_334 (lv_at hl 0 rfl) ?_
                                            refine lv_dup2_11 hx hb dL_night_336 rfl rfl ?_
                                            refine aldI hx hb hK hP 0 0 rfl rfl (jj) rfl (by omega) (by decide) dL_night_337 ?_
                                            refine lv_iconst (v := 1) hx hb dL_night_338 (by decide) ?_
                                            refine lv_iadd hx hb dL_night_339 ?_
                                            refine astI hx hb hK hP hD hS 0 0 rfl rfl (jj) rfl (by omega) (by decide) dL_night_340 (fun H locs hP hD hS => ?_)
                                            have hP : va_P D vwCl ((q239, .inl (T 0, 5, .inl (va_up fh jj ((fh jj) + 1)))) :: (q86, .inl (T 0, 5, .inl fo)) :: (q81, .inl (T 0, 24, .inl fa)) :: (q75, .inl (T 0, 24, .inl fw)) :: WIN T v B O2 g ln un2 nx2 pl f0 f1 f2) H := hP
                                            have hD : va_D A ((q239, .inl (T 0, 5, .inl (va_up fh jj ((fh jj) + 1)))) :: (q86, .inl (T 0, 5, .inl fo)) :: (q81, .inl (T 0, 24, .inl fa)) :: (q75, .inl (T 0, 24, .inl fw)) :: WIN T v B O2 g ln un2 nx2 pl f0 f1 f2) := hD
                                            refine lv_aload_n hx hb dL_night_341 rfl (lv_at hl 15 rfl) ?_
                                            refine lv_bipush (v := 28) hx hb dL_night_342 (by decide) ?_
                                            refine lv_iload hx hb dL_night_344 (lv_at hl 2 rfl) ?_
                                            refine lqSi (As := [.ref (v 0), .int (28), .int (nI k)]) (rest := []) ⟨hx, hb, hml, hown, hts⟩ (c_ask_isAnswered l hl9 D T aK aV v B O2 g ln un2 nx2 pl f0 f1 f2 k N K C (nt + 1) hOI2 (by omega) _) (va_cwS 3 hts (gC gl_L_call__) rfl rfl rfl (by decide +kernel) ⟨Nat.le_of_ble_eq_true rfl, Nat.le_of_ble_eq_true rfl⟩) (Foc.pre [(q239, .inl (T 0, 5, .inl (va_up fh jj ((fh jj) + 1)))), (q86, .inl (T 0, 5, .inl fo)), (q81, .inl (T 0, 24, .inl fa)), (q75, .inl (T 0, 24, .inl fw))] _ _) hC hNC hK hP hD hS hA rfl hl.1 rfl (Nat.le_of_ble_eq_true rfl) ⟨by show _ ≤ 8800; omega, by show _ ≤ 52800; omega⟩ dL_night_346 (fun H locs hP hD hS => ?_)
                                            have hP : va_P D vwCl ((q239, .inl (T 0, 5, .inl (va_up fh jj ((fh jj) + 1)))) :: (q86, .inl (T 0, 5, .inl fo)) :: (q81, .inl (T 0, 24, .inl fa)) :: (q75, .inl (T 0, 24, .inl fw)) :: WIN T v B O2 g ln un2 nx2 pl f0 f1 f2) H := hP
                                            have hD : va_D A ((q239, .inl (T 0, 5, .inl (va_up fh jj ((fh jj) + 1)))) :: (q86, .inl (T 0, 5, .inl fo)) :: (q81, .inl (T 0, 24, .inl fa)) :: (q75, .inl (T 0, 24, .inl fw)) :: WIN T v B O2 g ln un2 nx2 pl f0 f1 f2) := hD
                                            refine endI (r := bI (decide (on 8 k = 1))) (by rw [hO2]) ?_
                                            refine endI (r := 1) (by rw [m8]; decide) ?_
                                            refine lv_iconst (v := 1) hx hb dL_night_349 (by decide) ?_
                                            refine lv_icmp_ne (tgt := 412) hx hb dL_night_350 (by decide) (fun c350 => ?_) (fun c350 => ?_)
                                            ·
                                              exact absurd c350 (by decide)
                                            ·
                                              refine lv_aload_n hx hb dL_night_353 rfl (lv_at hl 15 rfl) ?_
                                              refine lv_bipush (v := 20) hx hb dL_night_354 (by decide) ?_
                                              refine lv_aload_n hx hb dL_night_356 rfl (lv_at hl 15 rfl) ?_
                                              refine lv_bipush (v := 24) hx hb dL_night_357 (by decide) ?_
                                              refine lv_iload hx hb dL_night_359 (lv_at hl 2 rfl) ?_
                                              refine lqSi (As := [.ref (v 0), .int (24), .int (nI k)]) (rest := [.int (20), .ref (v 0)]) ⟨hx, hb, hml, hown, hts⟩ (c_ask_sortOf l hl9 D T aK aV v B O2 g ln un2 nx2 pl f0 f1 f2 k N K C (nt + 1) hOI2 (by omega) _) (va_cwS 3 hts (gC gl_L_call__) rfl rfl rfl (by decide +kernel) ⟨Nat.le_of_ble_eq_true rfl, Nat.le_of_ble_eq_true rfl⟩) (Foc.pre [(q239, .inl (T 0, 5, .inl (va_up fh jj ((fh jj) + 1)))), (q86, .inl (T 0, 5, .inl fo)), (q81, .inl (T 0, 24, .inl fa)), (q75, .inl (T 0, 24, .inl fw))] _ _) hC hNC hK hP hD hS hA rfl hl.1 rfl (Nat.le_of_ble_eq_true rfl) ⟨by show _ ≤ 8800; omega, by show _ ≤ 52800; omega⟩ dL_night_361 (fun H locs hP hD hS => ?_)
                                              have hP : va_P D vwCl ((q239, .inl (T 0, 5, .inl (va_up fh jj ((fh jj) + 1)))) :: (q86, .inl (T 0, 5, .inl fo)) :: (q81, .inl (T 0, 24, .inl fa)) :: (q75, .inl (T 0, 24, .inl fw)) :: WIN T v B O2 g ln un2 nx2 pl f0 f1 f2) H := hP
                                              have hD : va_D A ((q239, .inl (T 0, 5, .inl (va_up fh jj ((fh jj) + 1)))) :: (q86, .inl (T 0, 5, .inl fo)) :: (q81, .inl (T 0, 24, .inl fa)) :: (q75, .inl (T 0, 24, .inl fw)) :: WIN T v B O2 g ln un2 nx2 pl f0 f1 f2) := hD
                                              refine endI (r := on 5 k) (by rw [hO2]) ?_
                                              refine endI (r := nI qq) (by rw [hr5]; exact e5) ?_
                                              refine lv_iload hx hb dL_night_364 (lv_at hl 12 rfl) ?_
                                              refine lqSi (As := [.ref (v 0), .int (20), .int (nI qq), .int (nI nt)]) (rest := []) ⟨hx, hb, hml, hown, hts⟩ (c_ask_isJustified l hl9 D T aK aV v B O2 g ln un2 nx2 pl f0 f1 f2 qq nt N K C (nt + 1) hOI2 (by omega) (by omega) _) (va_cwS 4 hts (gC gl_L_call_) rfl rfl rfl (by decide +kernel) ⟨Nat.le_of_ble_eq_true rfl, Nat.le_of_ble_eq_true rfl⟩) (Foc.pre [(q239, .inl (T 0, 5, .inl (va_up fh jj ((fh jj) + 1)))), (q86, .inl (T 0, 5, .inl fo)), (q81, .inl (T 0, 24, .inl fa)), (q75, .inl (T 0, 24, .inl fw))] _ _) hC hNC hK hP hD hS hA rfl hl.1 rfl (Nat.le_of_ble_eq_true rfl) ⟨by show _ ≤ 8800; omega, by show _ ≤ 52800; omega⟩ dL_night_366 (fun H locs hP hD hS => ?_)
                                              have hP : va_P D vwCl ((q239, .inl (T 0, 5, .inl (va_up fh jj ((fh jj) + 1)))) :: (q86, .inl (T 0, 5, .inl fo)) :: (q81, .inl (T 0, 24, .inl fa)) :: (q75, .inl (T 0, 24, .inl fw)) :: WIN T v B O2 g ln un2 nx2 pl f0 f1 f2) H := hP
                                              have hD : va_D A ((q239, .inl (T 0, 5, .inl (va_up fh jj ((fh jj) + 1)))) :: (q86, .inl (T 0, 5, .inl fo)) :: (q81, .inl (T 0, 24, .inl fa)) :: (q75, .inl (T 0, 24, .inl fw)) :: WIN T v B O2 g ln un2 nx2 pl f0 f1 f2) := hD
                                              refine endI (r := bI (justB qq (on 0 1) (on 0 2) (on 0 3) nt (on 1 (nt % C)))) (by rw [hO2]) ?_
                                              refine endI (r := 1) (by rw [hr0 1 (by decide) (by decide), hr0 2 (by decide) (by decide), hr0 3 (by decide) (by decide), hr1, mj9]; rfl) ?_
                                              refine lv_iconst (v := 1) hx hb dL_night_369 (by decide) ?_
                                              refine lv_icmp_ne (tgt := 406) hx hb dL_night_370 (by decide) (fun c370 => ?_) (fun c370 => ?_)
                                              ·
                                                exact absurd c370 (by decide)
                                              ·
                                                refine lv_aload_n hx hb dL_night_373 rfl (lv_at hl 15 rfl) ?_
                                                refine lv_bipush (v := 31) hx hb dL_night_374 (by decide) ?_
                                                refine lv_iload hx hb dL_night_376 (lv_at hl 2 rfl) ?_
                                                refine lqSi (As := [.ref (v 0), .int (31), .int (nI k)]) (rest := []) ⟨hx, hb, hml, hown, hts⟩ (c_ask_closedIn l hl9 D T aK aV v B O2 g ln un2 nx2 pl f0 f1 f2 k N K C (nt + 1) hOI2 (by omega) _) (va_cwS 3 hts (gC gl_L_call__) rfl rfl rfl (by decide +kernel) ⟨Nat.le_of_ble_eq_true rfl, Nat.le_of_ble_eq_true rfl⟩) (Foc.pre [(q239, .inl (T 0, 5, .inl (va_up fh jj ((fh jj) + 1)))), (q86, .inl (T 0, 5, .inl fo)), (q81, .inl (T 0, 24, .inl fa)), (q75, .inl (T 0, 24, .inl fw))] _ _) hC hNC hK hP hD hS hA rfl hl.1 rfl (Nat.le_of_ble_eq_true rfl) ⟨by show _ ≤ 8800; omega, by show _ ≤ 52800; omega⟩ dL_night_378 (fun H locs hP hD hS => ?_)
                                                have hP : va_P D vwCl ((q239, .inl (T 0, 5, .inl (va_up fh jj ((fh jj) + 1)))) :: (q86, .inl (T 0, 5, .inl fo)) :: (q81, .inl (T 0, 24, .inl fa)) :: (q75, .inl (T 0, 24, .inl fw)) :: WIN T v B O2 g ln un2 nx2 pl f0 f1 f2) H := hP
                                                have hD : va_D A ((q239, .inl (T 0, 5, .inl (va_up fh jj ((fh jj) + 1)))) :: (q86, .inl (T 0, 5, .inl fo)) :: (q81, .inl (T 0, 24, .inl fa)) :: (q75, .inl (T 0, 24, .inl fw)) :: WIN T v B O2 g ln un2 nx2 pl f0 f1 f2) := hD
                                                refine endI (r := if on 8 k = 0 then -101 else on 9 k) (by rw [hO2]) ?_
                                                refine endI (r := nI nt) (by rw [if_neg (by rw [m8]; decide)]; exact m9) ?_
                                                refine lv_iload hx hb dL_night_381 (lv_at hl 12 rfl) ?_
                                                refine lv_icmp_ne (tgt := 406) hx hb dL_night_383 (by decide) (fun c383 => ?_) (fun c383 => ?_)
                                                ·
                                                  exact absurd rfl c383
                                                ·
                                                  refine lv_aload_n hx hb dL_night_386 rfl (lv_at hl 15 rfl) ?_
                                                  refine lv_bipush (v := 25) hx hb dL_night_387 (by decide) ?_
                                                  refine lv_iload hx hb dL_night_389 (lv_at hl 2 rfl) ?_
                                                  refine lqSi (As := [.ref (v 0), .int (25), .int (nI k)]) (rest := []) ⟨hx, hb, hml, hown, hts⟩ (c_ask_angerOf l hl9 D T aK aV v B O2 g ln un2 nx2 pl f0 f1 f2 k N K C (nt + 1) hOI2 (by omega) _) (va_cwS 3 hts (gC gl_L_call__) rfl rfl rfl (by decide +kernel) ⟨Nat.le_of_ble_eq_true rfl, Nat.le_of_ble_eq_true rfl⟩) (Foc.pre [(q239, .inl (T 0, 5, .inl (va_up fh jj ((fh jj) + 1)))), (q86, .inl (T 0, 5, .inl fo)), (q81, .inl (T 0, 24, .inl fa)), (q75, .inl (T 0, 24, .inl fw))] _ _) hC hNC hK hP hD hS hA rfl hl.1 rfl (Nat.le_of_ble_eq_true rfl) ⟨by show _ ≤ 8800; omega, by show _ ≤ 52800; omega⟩ dL_night_391 (fun H locs hP hD hS => ?_)
                                                  have hP : va_P D vwCl ((q239, .inl (T 0, 5, .inl (va_up fh jj ((fh jj) + 1)))) :: (q86, .inl (T 0, 5, .inl fo)) :: (q81, .inl (T 0, 24, .inl fa)) :: (q75, .inl (T 0, 24, .inl fw)) :: WIN T v B O2 g ln un2 nx2 pl f0 f1 f2) H := hP
                                                  have hD : va_D A ((q239, .inl (T 0, 5, .inl (va_up fh jj ((fh jj) + 1)))) :: (q86, .inl (T 0, 5, .inl fo)) :: (q81, .inl (T 0, 24, .inl fa)) :: (q75, .inl (T 0, 24, .inl fw)) :: WIN T v B O2 g ln un2 nx2 pl f0 f1 f2) := hD
                                                  refine endI (r := on 6 k) (by rw [hO2]) ?_
                                                  refine endI (r := nI aa) (by rw [m6]; exact e6) ?_
                                                  refine lv_aload hx hb dL_night_394 (lv_at hl 6 rfl) ?_
                                                  refine lv_iload hx hb dL_night_396 (lv_at hl 2 rfl) ?_
                                                  refine aldI hx hb hK hP 2 0 rfl rfl (k) rfl (by omega) (by decide) dL_night_398 ?_
                                                  refine endI (r := nI aa) (by rw [hfa9 k (by omega)]; exact e6) ?_
                                                  refine lv_icmp_ne (tgt := 406) hx hb dL_night_399 (by decide) (fun c399 => ?_) (fun c399 => ?_)
                                                  ·
                                                    exact absurd rfl c399
                                                  ·
                                                    refine lv_iconst (v := 1) hx hb dL_night_402 (by decide) ?_
                                                    refine lv_goto (tgt := 407) hx hb dL_night_403 (by decide) ?_
                                                    refine lv_istore (lv' := [(12, .int (1)), (16, .int (nI jj)), (15, .int (nI ((nt + 1) - ff))), (14, .int (nI k)), (13, .ref (q239)), (11, .ref (q86)), (10, .ref (q81)), (9, .ref (q75)), (8, .int ((cntC (O 0) 1 N) + (cntC (O 0) 2 N))), (7, .int ((O 0) 0 6)), (6, .int (nI cc)), (5, .int ((nightC N K C nt (O 0)).1)), (4, .int (nI nt)), (3, .int (nI N)), (1, .long (stC (O 0) N K C)), (0, .ref (v 0))]) hx hb dL_night_407 hl (by decide) rfl (fun ls hl => ?_)
                                                    refine lv_goto (tgt := 561) hx hb dL_night_409 (by decide) ?_
                                                    refine lv_iinc (v := nI (k + 1)) (lv' := [(14, .int (nI (k + 1))), (12, .int (1)), (16, .int (nI jj)), (15, .int (nI ((nt + 1) - ff))), (13, .ref (q239)), (11, .ref (q86)), (10, .ref (q81)), (9, .ref (q75)), (8, .int ((cntC (O 0) 1 N) + (cntC (O 0) 2 N))), (7, .int ((O 0) 0 6)), (6, .int (nI cc)), (5, .int ((nightC N K C nt (O 0)).1)), (4, .int (nI nt)), (3, .int (nI N)), (1, .long (stC (O 0) N K C)), (0, .ref (v 0))]) hx hb dL_night_561 hl (k := 3) rfl (nI_1 _) (by decide) rfl (fun ls hl => ?_)
                                                    refine lv_goto (tgt := 246) hx hb dL_night_564 (by decide) ?_
                                                    exact ih246 (k + 1) (va_up fh jj ((fh jj) + 1)) _ _ (by omega) (by omega) (by intro j hj; have h9 := hfh j hj; first | (refine Eq.trans ?_ (h_keep h9 (by rw [decide_eq_false n0, Bool.false_and])); rfl) | (refine Eq.trans ?_ (h_keep h9 (by rw [m10, decide_eq_false (p := (-1 : Int32) = nI j) (fun e => nI_nneg (by omega) (by decide) e.symm), Bool.and_false])); rfl) | exact h_take h9 n0 m10 (by omega) (by omega)) (by omega) (by omega) _ _ _ hP hD hS (lv_sub hl [0, 4, 1, 5, 6, 7, 8, 9, 10, 11, 12, 13, 14, 15] rfl)
                                        ·
                                          exact absurd c277 (by decide)
                                      ·
                                        have m149 := m14 ff e7 hff
                                        refine lv_iload hx hb dL_night_257 (lv_at hl 10 rfl) ?_
                                        refine lv_iconst (v := 1) hx hb dL_night_259 (by decide) ?_
                                        refine lv_iadd hx hb dL_night_260 ?_
                                        refine endI (r := nI (nt + 1)) (nI_add _ _) ?_
                                        refine lv_aload_n hx hb dL_night_261 rfl (lv_at hl 13 rfl) ?_
                                        refine lv_bipush (v := 26) hx hb dL_night_262 (by decide) ?_
                                        refine lv_iload hx hb dL_night_264 (lv_at hl 0 rfl) ?_
                                        refine lqSi (As := [.ref (v 0), .int (26), .int (nI k)]) (rest := [.int (nI (nt + 1))]) ⟨hx, hb, hml, hown, hts⟩ (c_ask_filedIn l hl9 D T aK aV v B O2 g ln un2 nx2 pl f0 f1 f2 k N K C (nt + 1) hOI2 (by omega) _) (va_cwS 3 hts (gC gl_L_call__) rfl rfl rfl (by decide +kernel) ⟨Nat.le_of_ble_eq_true rfl, Nat.le_of_ble_eq_true rfl⟩) (Foc.pre [(q239, .inl (T 0, 5, .inl fh)), (q86, .inl (T 0, 5, .inl fo)), (q81, .inl (T 0, 24, .inl fa)), (q75, .inl (T 0, 24, .inl fw))] _ _) hC hNC hK hP hD hS hA rfl hl.1 rfl (Nat.le_of_ble_eq_true rfl) ⟨by show _ ≤ 8800; omega, by show _ ≤ 52800; omega⟩ dL_night_266 (fun H locs hP hD hS => ?_)
                                        have hP : va_P D vwCl ((q239, .inl (T 0, 5, .inl fh)) :: (q86, .inl (T 0, 5, .inl fo)) :: (q81, .inl (T 0, 24, .inl fa)) :: (q75, .inl (T 0, 24, .inl fw)) :: WIN T v B O2 g ln un2 nx2 pl f0 f1 f2) H := hP
                                        have hD : va_D A ((q239, .inl (T 0, 5, .inl fh)) :: (q86, .inl (T 0, 5, .inl fo)) :: (q81, .inl (T 0, 24, .inl fa)) :: (q75, .inl (T 0, 24, .inl fw)) :: WIN T v B O2 g ln un2 nx2 pl f0 f1 f2) := hD
                                        refine endI (r := on 7 k) (by rw [hO2]) ?_
                                        refine endI (r := nI ff) (by rw [hr7]; exact e7) ?_
                                        refine lv_isub hx hb dL_night_269 ?_
                                        refine endI (r := nI ((nt + 1) - ff)) (pk_sub (a := nt + 1) (b := ff) (by omega)) ?_
                                        refine lv_istore (lv' := [(15, .int (nI ((nt + 1) - ff))), (14, .int (nI k)), (13, .ref (q239)), (12, .int (1)), (11, .ref (q86)), (10, .ref (q81)), (9, .ref (q75)), (8, .int ((cntC (O 0) 1 N) + (cntC (O 0) 2 N))), (7, .int ((O 0) 0 6)), (6, .int (nI cc)), (5, .int ((nightC N K C nt (O 0)).1)), (4, .int (nI nt)), (3, .int (nI N)), (1, .long (stC (O 0) N K C)), (0, .ref (v 0))]) hx hb dL_night_270 hl (by decide) rfl (fun ls hl => ?_)
                                        refine lv_aload hx hb dL_night_272 (lv_at hl 6 rfl) ?_
                                        refine lv_iload hx hb dL_night_274 (lv_at hl 1 rfl) ?_
                                        refine aldI hx hb hK hP 3 0 rfl rfl (k) rfl (by omega) (by decide) dL_night_276 ?_
                                        refine endI (r := 1) (by rw [hfw9 k (by omega), decide_eq_true n0]; rfl) ?_
                                        refine lv_if_ne (tgt := 317) hx hb dL_night_277 (by decide) (fun c277 => ?_) (fun c277 => ?_)
                                        ·
                                          refine lv_aload_n hx hb dL_night_317 rfl (lv_at hl 14 rfl) ?_
                                          refine lv_bipush (v := 32) hx hb dL_night_318 (by decide) ?_
                                          refine lv_iload hx hb dL_night_320 (lv_at hl 1 rfl) ?_
                                          refine lqSi (As := [.ref (v 0), .int (32), .int (nI k)]) (rest := []) ⟨hx, hb, hml, hown, hts⟩ (c_ask_clerkOf l hl9 D T aK aV v B O2 g ln un2 nx2 pl f0 f1 f2 k N K C (nt + 1) hOI2 (by omega) _) (va_cwS 3 hts (gC gl_L_call__) rfl rfl rfl (by decide +kernel) ⟨Nat.le_of_ble_eq_true rfl, Nat.le_of_ble_eq_true rfl⟩) (Foc.pre [(q239, .inl (T 0, 5, .inl fh)), (q86, .inl (T 0, 5, .inl fo)), (q81, .inl (T 0, 24, .inl fa)), (q75, .inl (T 0, 24, .inl fw))] _ _) hC hNC hK hP hD hS hA rfl hl.1 rfl (Nat.le_of_ble_eq_true rfl) ⟨by show _ ≤ 8800; omega, by show _ ≤ 52800; omega⟩ dL_night_322 (fun H locs hP hD hS => ?_)
                                          have hP : va_P D vwCl ((q239, .inl (T 0, 5, .inl fh)) :: (q86, .inl (T 0, 5, .inl fo)) :: (q81, .inl (T 0, 24, .inl fa)) :: (q75, .inl (T 0, 24, .inl fw)) :: WIN T v B O2 g ln un2 nx2 pl f0 f1 f2) H := hP
                                          have hD : va_D A ((q239, .inl (T 0, 5, .inl fh)) :: (q86, .inl (T 0, 5, .inl fo)) :: (q81, .inl (T 0, 24, .inl fa)) :: (q75, .inl (T 0, 24, .inl fw)) :: WIN T v B O2 g ln un2 nx2 pl f0 f1 f2) := hD
                                          refine endI (r := if on 10 k = -1 then -101 else on 10 k) (by rw [hO2]) ?_
                                          refine endI (r := nI jj) (by rw [if_neg (by rw [m10]; exact nI_nneg (by omega) (by decide))]; exact m10) ?_
                                          refine lv_istore (lv' := [(16, .int (nI jj)), (15, .int (nI ((nt + 1) - ff))), (14, .int (nI k)), (13, .ref (q239)), (12, .int (1)), (11, .ref (q86)), (10, .ref (q81)), (9, .ref (q75)), (8, .int ((cntC (O 0) 1 N) + (cntC (O 0) 2 N))), (7, .int ((O 0) 0 6)), (6, .int (nI cc)), (5, .int ((nightC N K C nt (O 0)).1)), (4, .int (nI nt)), (3, .int (nI N)), (1, .long (stC (O 0) N K C)), (0, .ref (v 0))]) hx hb dL_night_325 hl (by decide) rfl (fun ls hl => ?_)
                                          refine lv_iload hx hb dL_night_327 (lv_at hl 0 rfl) ?_
                                          refine lv_if_lt (tgt := 341) hx hb dL_night_329 (by decide) (fun c329 => ?_) (fun c329 => ?_)
                                          ·
                                            have c329 : jj < 0 := (nI_ltI (a := jj) (b := 0) (by omega) (by omega)).mp c329
                                            exfalso; omega
                                          ·
                                            have c329 : ¬ jj < 0 := fun h9 => c329 ((nI_ltI (a := jj) (b := 0) (by omega) (by omega)).mpr h9)
                                            refine lv_aload hx hb dL_night_332 (lv_at hl 3 rfl) ?_
                                            refine lv_iload hx hb dL_night_334 (lv_at hl 0 rfl) ?_
                                            refine lv_dup2_11 hx hb dL_night_336 rfl rfl ?_
                                            refine aldI hx hb hK hP 0 0 rfl rfl (jj) rfl (by omega) (by decide) dL_night_337 ?_
                                            refine lv_iconst (v := 1) hx hb dL_night_338 (by decide) ?_
                                            refine lv_iadd hx hb dL_night_339 ?_
                                            refine astI hx hb hK hP hD hS 0 0 rfl rfl (jj) rfl (by omega) (by decide) dL_night_340 (fun H locs hP hD hS => ?_)
                                            have hP : va_P D vwCl ((q239, .inl (T 0, 5, .inl (va_up fh jj ((fh jj) + 1)))) :: (q86, .inl (T 0, 5, .inl fo)) :: (q81, .inl (T 0, 24, .inl fa)) :: (q75, .inl (T 0, 24, .inl fw)) :: WIN T v B O2 g ln un2 nx2 pl f0 f1 f2) H := hP
                                            have hD : va_D A ((q239, .inl (T 0, 5, .inl (va_up fh jj ((fh jj) + 1)))) :: (q86, .inl (T 0, 5, .inl fo)) :: (q81, .inl (T 0, 24, .inl fa)) :: (q75, .inl (T 0, 24, .inl fw)) :: WIN T v B O2 g ln un2 nx2 pl f0 f1 f2) := hD
                                            refine lv_aload_n hx hb dL_night_341 rfl (lv_at hl 15 rfl) ?_
                                            refine lv_bipush (v := 28) hx hb dL_night_342 (by decide) ?_
                                            refine lv_iload hx hb dL_night_344 (lv_at hl 2 rfl) ?_
                                            refine lqSi (As := [.ref (v 0), .int (28), .int (nI k)]) (rest := []) ⟨hx, hb, hml, hown, hts⟩ (c_ask_isAnswered l hl9 D T aK aV v B O2 g ln un2 nx2 pl f0 f1 f2 k N K C (nt + 1) hOI2 (by omega) _) (va_cwS 3 hts (gC gl_L_call__) rfl rfl rfl (by decide +kernel) ⟨Nat.le_of_ble_eq_true rfl, Nat.le_of_ble_eq_true rfl⟩) (Foc.pre [(q239, .inl (T 0, 5, .inl (va_up fh jj ((fh jj) + 1)))), (q86, .inl (T 0, 5, .inl fo)), (q81, .inl (T 0, 24, .inl fa)), (q75, .inl (T 0, 24, .inl fw))] _ _) hC hNC hK hP hD hS hA rfl hl.1 rfl (Nat.le_of_ble_eq_true rfl) ⟨by show _ ≤ 8800; omega, by show _ ≤ 52800; omega⟩ dL_night_346 (fun H locs hP hD hS => ?_)
                                            have hP : va_P D vwCl ((q239, .inl (T 0, 5, .inl (va_up fh jj ((fh jj) + 1)))) :: (q86, .inl (T 0, 5, .inl fo)) :: (q81, .inl (T 0, 24, .inl fa)) :: (q75, .inl (T 0, 24, .inl fw)) :: WIN T v B O2 g ln un2 nx2 pl f0 f1 f2) H := hP
                                            have hD : va_D A ((q239, .inl (T 0, 5, .inl (va_up fh jj ((fh jj) + 1)))) :: (q86, .inl (T 0, 5, .inl fo)) :: (q81, .inl (T 0, 24, .inl fa)) :: (q75, .inl (T 0, 24, .inl fw)) :: WIN T v B O2 g ln un2 nx2 pl f0 f1 f2) := hD
                                            refine endI (r := bI (decide (on 8 k = 1))) (by rw [hO2]) ?_
                                            refine endI (r := 0) (by rw [m8]; decide) ?_
                                            refine lv_iconst (v := 1) hx hb dL_night_349 (by decide) ?_
                                            refine lv_icmp_ne (tgt := 412) hx hb dL_night_350 (by decide) (fun c350 => ?_) (fun c350 => ?_)
                                            ·
                                              refine lv_aload_n hx hb dL_night_412 rfl (lv_at hl 15 rfl) ?_
                                              refine lv_bipush (v := 29) hx hb dL_night_413 (by decide) ?_
                                              refine lv_iload hx hb dL_night_415 (lv_at hl 2 rfl) ?_
                                              refine lqSi (As := [.ref (v 0), .int (29), .int (nI k)]) (rest := []) ⟨hx, hb, hml, hown, hts⟩ (c_ask_isDismissed l hl9 D T aK aV v B O2 g ln un2 nx2 pl f0 f1 f2 k N K C (nt + 1) hOI2 (by omega) _) (va_cwS 3 hts (gC gl_L_call__) rfl rfl rfl (by decide +kernel) ⟨Nat.le_of_ble_eq_true rfl, Nat.le_of_ble_eq_true rfl⟩) (Foc.pre [(q239, .inl (T 0, 5, .inl (va_up fh jj ((fh jj) + 1)))), (q86, .inl (T 0, 5, .inl fo)), (q81, .inl (T 0, 24, .inl fa)), (q75, .inl (T 0, 24, .inl fw))] _ _) hC hNC hK hP hD hS hA rfl hl.1 rfl (Nat.le_of_ble_eq_true rfl) ⟨by show _ ≤ 8800; omega, by show _ ≤ 52800; omega⟩ dL_night_417 (fun H locs hP hD hS => ?_)
                                              have hP : va_P D vwCl ((q239, .inl (T 0, 5, .inl (va_up fh jj ((fh jj) + 1)))) :: (q86, .inl (T 0, 5, .inl fo)) :: (q81, .inl (T 0, 24, .inl fa)) :: (q75, .inl (T 0, 24, .inl fw)) :: WIN T v B O2 g ln un2 nx2 pl f0 f1 f2) H := hP
                                              have hD : va_D A ((q239, .inl (T 0, 5, .inl (va_up fh jj ((fh jj) + 1)))) :: (q86, .inl (T 0, 5, .inl fo)) :: (q81, .inl (T 0, 24, .inl fa)) :: (q75, .inl (T 0, 24, .inl fw)) :: WIN T v B O2 g ln un2 nx2 pl f0 f1 f2) := hD
                                              refine endI (r := bI (decide (on 8 k = 2))) (by rw [hO2]) ?_
                                              refine endI (r := 1) (by rw [m8]; decide) ?_
                                              refine lv_iconst (v := 1) hx hb dL_night_420 (by decide) ?_
                                              refine lv_icmp_ne (tgt := 470) hx hb dL_night_421 (by decide) (fun c421 => ?_) (fun c421 => ?_)
                                              ·
                                                exact absurd c421 (by decide)
                                              ·
                                                refine lv_iload hx hb dL_night_424 (lv_at hl 1 rfl) ?_
                                                refine lv_bipush (v := 14) hx hb dL_night_426 (by decide) ?_
                                                refine lv_icmp_le (tgt := 464) hx hb dL_night_428 (by decide) (fun c428 => ?_) (fun c428 => ?_)
                                                ·
                                                  have c428 : ((nt + 1) - ff) ≤ 14 := (nI_leI (a := ((nt + 1) - ff)) (b := 14) (by omega) (by omega)).mp c428
                                                  exfalso; omega
                                                ·
                                                  have c428 : ¬ ((nt + 1) - ff) ≤ 14 := fun h9 => c428 ((nI_leI (a := ((nt + 1) - ff)) (b := 14) (by omega) (by omega)).mpr h9)
                                                  refine lv_aload_n hx hb dL_night_431 rfl (lv_at hl 15 rfl) ?_
                                                  refine lv_bipush (v := 31) hx hb dL_night_432 (by decide) ?_
                                                  refine lv_iload hx hb dL_night_434 (lv_at hl 2 rfl) ?_
                                                  refine lqSi (As := [.ref (v 0), .int (31), .int (nI k)]) (rest := []) ⟨hx, hb, hml, hown, hts⟩ (c_ask_closedIn l hl9 D T aK aV v B O2 g ln un2 nx2 pl f0 f1 f2 k N K C (nt + 1) hOI2 (by omega) _) (va_cwS 3 hts (gC gl_L_call__) rfl rfl rfl (by decide +kernel) ⟨Nat.le_of_ble_eq_true rfl, Nat.le_of_ble_eq_true rfl⟩) (Foc.pre [(q239, .inl (T 0, 5, .inl (va_up fh jj ((fh jj) + 1)))), (q86, .inl (T 0, 5, .inl fo)), (q81, .inl (T 0, 24, .inl fa)), (q75, .inl (T 0, 24, .inl fw))] _ _) hC hNC hK hP hD hS hA rfl hl.1 rfl (Nat.le_of_ble_eq_true rfl) ⟨by show _ ≤ 8800; omega, by show _ ≤ 52800; omega⟩ dL_night_436 (fun H locs hP hD hS => ?_)
                                                  have hP : va_P D vwCl ((q239, .inl (T 0, 5, .inl (va_up fh jj ((fh jj) + 1)))) :: (q86, .inl (T 0, 5, .inl fo)) :: (q81, .inl (T 0, 24, .inl fa)) :: (q75, .inl (T 0, 24, .inl fw)) :: WIN T v B O2 g ln un2 nx2 pl f0 f1 f2) H := hP
                                                  have hD : va_D A ((q239, .inl (T 0, 5, .inl (va_up fh jj ((fh jj) + 1)))) :: (q86, .inl (T 0, 5, .inl fo)) :: (q81, .inl (T 0, 24, .inl fa)) :: (q75, .inl (T 0, 24, .inl fw)) :: WIN T v B O2 g ln un2 nx2 pl f0 f1 f2) := hD
                                                  refine endI (r := if on 8 k = 0 then -101 else on 9 k) (by rw [hO2]) ?_
                                                  refine endI (r := nI nt) (by rw [if_neg (by rw [m8]; decide)]; exact m9) ?_
                                                  refine lv_iload hx hb dL_night_439 (lv_at hl 12 rfl) ?_
                                                  refine lv_icmp_ne (tgt := 464) hx hb dL_night_441 (by decide) (fun c441 => ?_) (fun c441 => ?_)
                                                  ·
                                                    exact absurd rfl c441
                                                  ·
                                                    refine lv_aload_n hx hb dL_night_444 rfl (lv_at hl 15 rfl) ?_
                                                    refine lv_bipush (v := 25) hx hb dL_night_445 (by decide) ?_
                                                    refine lv_iload hx hb dL_night_447 (lv_at hl 2 rfl) ?_
                                                    refine lqSi (As := [.ref (v 0), .int (25), .int (nI k)]) (rest := []) ⟨hx, hb, hml, hown, hts⟩ (c_ask_angerOf l hl9 D T aK aV v B O2 g ln un2 nx2 pl f0 f1 f2 k N K C (nt + 1) hOI2 (by omega) _) (va_cwS 3 hts (gC gl_L_call__) rfl rfl rfl (by decide +kernel) ⟨Nat.le_of_ble_eq_true rfl, Nat.le_of_ble_eq_true rfl⟩) (Foc.pre [(q239, .inl (T 0, 5, .inl (va_up fh jj ((fh jj) + 1)))), (q86, .inl (T 0, 5, .inl fo)), (q81, .inl (T 0, 24, .inl fa)), (q75, .inl (T 0, 24, .inl fw))] _ _) hC hNC hK hP hD hS hA rfl hl.1 rfl (Nat.le_of_ble_eq_true rfl) ⟨by show _ ≤ 8800; omega, by show _ ≤ 52800; omega⟩ dL_night_449 (fun H locs hP hD hS => ?_)
                                                    have hP : va_P D vwCl ((q239, .inl (T 0, 5, .inl (va_up fh jj ((fh jj) + 1)))) :: (q86, .inl (T 0, 5, .inl fo)) :: (q81, .inl (T 0, 24, .inl fa)) :: (q75, .inl (T 0, 24, .inl fw)) :: WIN T v B O2 g ln un2 nx2 pl f0 f1 f2) H := hP
                                                    have hD : va_D A ((q239, .inl (T 0, 5, .inl (va_up fh jj ((fh jj) + 1)))) :: (q86, .inl (T 0, 5, .inl fo)) :: (q81, .inl (T 0, 24, .inl fa)) :: (q75, .inl (T 0, 24, .inl fw)) :: WIN T v B O2 g ln un2 nx2 pl f0 f1 f2) := hD
                                                    refine endI (r := on 6 k) (by rw [hO2]) ?_
                                                    refine endI (r := nI aa) (by rw [m6]; exact e6) ?_
                                                    refine lv_aload hx hb dL_night_452 (lv_at hl 6 rfl) ?_
                                                    refine lv_iload hx hb dL_night_454 (lv_at hl 2 rfl) ?_
                                                    refine aldI hx hb hK hP 2 0 rfl rfl (k) rfl (by omega) (by decide) dL_night_456 ?_
                                                    refine endI (r := nI aa) (by rw [hfa9 k (by omega)]; exact e6) ?_
                                                    refine lv_icmp_ne (tgt := 464) hx hb dL_night_457 (by decide) (fun c457 => ?_) (fun c457 => ?_)
                                                    ·
                                                      exact absurd rfl c457
                                                    ·
                                                      refine lv_iconst (v := 1) hx hb dL_night_460 (by decide) ?_
                                                      refine lv_goto (tgt := 465) hx hb dL_night_461 (by decide) ?_
                                                      refine lv_istore (lv' := [(12, .int (1)), (16, .int (nI jj)), (15, .int (nI ((nt + 1) - ff))), (14, .int (nI k)), (13, .ref (q239)), (11, .ref (q86)), (10, .ref (q81)), (9, .ref (q75)), (8, .int ((cntC (O 0) 1 N) + (cntC (O 0) 2 N))), (7, .int ((O 0) 0 6)), (6, .int (nI cc)), (5, .int ((nightC N K C nt (O 0)).1)), (4, .int (nI nt)), (3, .int (nI N)), (1, .long (stC (O 0) N K C)), (0, .ref (v 0))]) hx hb dL_night_465 hl (by decide) rfl (fun ls hl => ?_)
                                                      refine lv_goto (tgt := 561) hx hb dL_night_467 (by decide) ?_
                                                      refine lv_iinc (v := nI (k + 1)) (lv' := [(14, .int (nI (k + 1))), (12, .int (1)), (16, .int (nI jj)), (15, .int (nI ((nt + 1) - ff))), (13, .ref (q239)), (11, .ref (q86)), (10, .ref (q81)), (9, .ref (q75)), (8, .int ((cntC (O 0) 1 N) + (cntC (O 0) 2 N))), (7, .int ((O 0) 0 6)), (6, .int (nI cc)), (5, .int ((nightC N K C nt (O 0)).1)), (4, .int (nI nt)), (3, .int (nI N)), (1, .long (stC (O 0) N K C)), (0, .ref (v 0))]) hx hb dL_night_561 hl (k := 3) rfl (nI_1 _) (by decide) rfl (fun ls hl => ?_)
                                                      refine lv_goto (tgt := 246) hx hb dL_night_564 (by decide) ?_
                                                      exact ih246 (k + 1) (va_up fh jj ((fh jj) + 1)) _ _ (by omega) (by omega) (by intro j hj; have h9 := hfh j hj; first | (refine Eq.trans ?_ (h_keep h9 (by rw [decide_eq_false n0, Bool.false_and])); rfl) | (refine Eq.trans ?_ (h_keep h9 (by rw [m10, decide_eq_false (p := (-1 : Int32) = nI j) (fun e => nI_nneg (by omega) (by decide) e.symm), Bool.and_false])); rfl) | exact h_take h9 n0 m10 (by omega) (by omega)) (by omega) (by omega) _ _ _ hP hD hS (lv_sub hl [0, 4, 1, 5, 6, 7, 8, 9, 10, 11, 12, 13, 14, 15] rfl)
                                            ·
                                              exact absurd c350 (by decide)
                                        ·
                                          exact absurd c277 (by decide)
                                      ·
                                        have hw9 := hw56 n0
                                        obtain ⟨mg, mg2⟩ := mm aa ff e6 ha9 e7 hff
                                        rcases mg2 with ⟨hne, m8⟩ | ⟨heq, m8, m9⟩
                                        ·
                                          refine lv_iload hx hb dL_night_257 (lv_at hl 10 rfl) ?_
                                          refine lv_iconst (v := 1) hx hb dL_night_259 (by decide) ?_
                                          refine lv_iadd hx hb dL_night_260 ?_
                                          refine endI (r := nI (nt + 1)) (nI_add _ _) ?_
                                          refine lv_aload_n hx hb dL_night_261 rfl (lv_at hl 13 rfl) ?_
                                          refine lv_bipush (v := 26) hx hb dL_night_262 (by decide) ?_
                                          refine lv_iload hx hb dL_night_264 (lv_at hl 0 rfl) ?_
                                          refine lqSi (As := [.ref (v 0), .int (26), .int (nI k)]) (rest := [.int (nI (nt + 1))]) ⟨hx, hb, hml, hown, hts⟩ (c_ask_filedIn l hl9 D T aK aV v B O2 g ln un2 nx2 pl f0 f1 f2 k N K C (nt + 1) hOI2 (by omega) _) (va_cwS 3 hts (gC gl_L_call__) rfl rfl rfl (by decide +kernel) ⟨Nat.le_of_ble_eq_true rfl, Nat.le_of_ble_eq_true rfl⟩) (Foc.pre [(q239, .inl (T 0, 5, .inl fh)), (q86, .inl (T 0, 5, .inl fo)), (q81, .inl (T 0, 24, .inl fa)), (q75, .inl (T 0, 24, .inl fw))] _ _) hC hNC hK hP hD hS hA rfl hl.1 rfl (Nat.le_of_ble_eq_true rfl) ⟨by show _ ≤ 8800; omega, by show _ ≤ 52800; omega⟩ dL_night_266 (fun H locs hP hD hS => ?_)
                                          have hP : va_P D vwCl ((q239, .inl (T 0, 5, .inl fh)) :: (q86, .inl (T 0, 5, .inl fo)) :: (q81, .inl (T 0, 24, .inl fa)) :: (q75, .inl (T 0, 24, .inl fw)) :: WIN T v B O2 g ln un2 nx2 pl f0 f1 f2) H := hP
                                          have hD : va_D A ((q239, .inl (T 0, 5, .inl fh)) :: (q86, .inl (T 0, 5, .inl fo)) :: (q81, .inl (T 0, 24, .inl fa)) :: (q75, .inl (T 0, 24, .inl fw)) :: WIN T v B O2 g ln un2 nx2 pl f0 f1 f2) := hD
                                          refine endI (r := on 7 k) (by rw [hO2]) ?_
                                          refine endI (r := nI ff) (by rw [hr7]; exact e7) ?_
                                          refine lv_isub hx hb dL_night_269 ?_
                                          refine endI (r := nI ((nt + 1) - ff)) (pk_sub (a := nt + 1) (b := ff) (by omega)) ?_
                                          refine lv_istore (lv' := [(15, .int (nI ((nt + 1) - ff))), (14, .int (nI k)), (13, .ref (q239)), (12, .int (1)), (11, .ref (q86)), (10, .ref (q81)), (9, .ref (q75)), (8, .int ((cntC (O 0) 1 N) + (cntC (O 0) 2 N))), (7, .int ((O 0) 0 6)), (6, .int (nI cc)), (5, .int ((nightC N K C nt (O 0)).1)), (4, .int (nI nt)), (3, .int (nI N)), (1, .long (stC (O 0) N K C)), (0, .ref (v 0))]) hx hb dL_night_270 hl (by decide) rfl (fun ls hl => ?_)
                                          refine lv_aload hx hb dL_night_272 (lv_at hl 6 rfl) ?_
                                          refine lv_iload hx hb dL_night_274 (lv_at hl 1 rfl) ?_
                                          refine aldI hx hb hK hP 3 0 rfl rfl (k) rfl (by omega) (by decide) dL_night_276 ?_
                                          refine endI (r := 1) (by rw [hfw9 k (by omega), decide_eq_true n0]; rfl) ?_
                                          refine lv_if_ne (tgt := 317) hx hb dL_night_277 (by decide) (fun c277 => ?_) (fun c277 => ?_)
                                          ·
                                            refine lv_aload_n hx hb dL_night_317 rfl (lv_at hl 14 rfl) ?_
                                            refine lv_bipush (v := 32) hx hb dL_night_318 (by decide) ?_
                                            refine lv_iload hx hb dL_night_320 (lv_at hl 1 rfl) ?_
                                            refine lqSi (As := [.ref (v 0), .int (32), .int (nI k)]) (rest := []) ⟨hx, hb, hml, hown, hts⟩ (c_ask_clerkOf l hl9 D T aK aV v B O2 g ln un2 nx2 pl f0 f1 f2 k N K C (nt + 1) hOI2 (by omega) _) (va_cwS 3 hts (gC gl_L_call__) rfl rfl rfl (by decide +kernel) ⟨Nat.le_of_ble_eq_true rfl, Nat.le_of_ble_eq_true rfl⟩) (Foc.pre [(q239, .inl (T 0, 5, .inl fh)), (q86, .inl (T 0, 5, .inl fo)), (q81, .inl (T 0, 24, .inl fa)), (q75, .inl (T 0, 24, .inl fw))] _ _) hC hNC hK hP hD hS hA rfl hl.1 rfl (Nat.le_of_ble_eq_true rfl) ⟨by show _ ≤ 8800; omega, by show _ ≤ 52800; omega⟩ dL_night_322 (fun H locs hP hD hS => ?_)
                                            have hP : va_P D vwCl ((q239, .inl (T 0, 5, .inl fh)) :: (q86, .inl (T 0, 5, .inl fo)) :: (q81, .inl (T 0, 24, .inl fa)) :: (q75, .inl (T 0, 24, .inl fw)) :: WIN T v B O2 g ln un2 nx2 pl f0 f1 f2) H := hP
                                            have hD : va_D A ((q239, .inl (T 0, 5, .inl fh)) :: (q86, .inl (T 0, 5, .inl fo)) :: (q81, .inl (T 0, 24, .inl fa)) :: (q75, .inl (T 0, 24, .inl fw)) :: WIN T v B O2 g ln un2 nx2 pl f0 f1 f2) := hD
                                            refine endI (r := if on 10 k = -1 then -101 else on 10 k) (by rw [hO2]) ?_
                                            refine endI (r := -101) (if_pos m10) ?_
                                            refine lv_istore (lv' := [(16, .int (-101)), (15, .int (nI ((nt + 1) - ff))), (14, .int (nI k)), (13, .ref (q239)), (12, .int (1)), (11, .ref (q86)), (10, .ref (q81)), (9, .ref (q75)), (8, .int ((cntC (O 0) 1 N) + (cntC (O 0) 2 N))), (7, .int ((O 0) 0 6)), (6, .int (nI cc)), (5, .int ((nightC N K C nt (O 0)).1)), (4, .int (nI nt)), (3, .int (nI N)), (1, .long (stC (O 0) N K C)), (0, .ref (v 0))]) hx hb dL_night_325 hl (by decide) rfl (fun ls hl => ?_)
                                            refine lv_iload hx hb dL_night_327 (lv_at hl 0 rfl) ?_
                                            refine lv_if_lt (tgt := 341) hx hb dL_night_329 (by decide) (fun c329 => ?_) (fun c329 => ?_)
                                            ·
                                              refine lv_aload_n hx hb dL_night_341 rfl (lv_at hl 15 rfl) ?_
                                              refine lv_bipush (v := 28) hx hb dL_night_342 (by decide) ?_
                                              refine lv_iload hx hb dL_night_344 (lv_at hl 2 rfl) ?_
                                              refine lqSi (As := [.ref (v 0), .int (28), .int (nI k)]) (rest := []) ⟨hx, hb, hml, hown, hts⟩ (c_ask_isAnswered l hl9 D T aK aV v B O2 g ln un2 nx2 pl f0 f1 f2 k N K C (nt + 1) hOI2 (by omega) _) (va_cwS 3 hts (gC gl_L_call__) rfl rfl rfl (by decide +kernel) ⟨Nat.le_of_ble_eq_true rfl, Nat.le_of_ble_eq_true rfl⟩) (Foc.pre [(q239, .inl (T 0, 5, .inl fh)), (q86, .inl (T 0, 5, .inl fo)), (q81, .inl (T 0, 24, .inl fa)), (q75, .inl (T 0, 24, .inl fw))] _ _) hC hNC hK hP hD hS hA rfl hl.1 rfl (Nat.le_of_ble_eq_true rfl) ⟨by show _ ≤ 8800; omega, by show _ ≤ 52800; omega⟩ dL_night_346 (fun H locs hP hD hS => ?_)
                                              have hP : va_P D vwCl ((q239, .inl (T 0, 5, .inl fh)) :: (q86, .inl (T 0, 5, .inl fo)) :: (q81, .inl (T 0, 24, .inl fa)) :: (q75, .inl (T 0, 24, .inl fw)) :: WIN T v B O2 g ln un2 nx2 pl f0 f1 f2) H := hP
                                              have hD : va_D A ((q239, .inl (T 0, 5, .inl fh)) :: (q86, .inl (T 0, 5, .inl fo)) :: (q81, .inl (T 0, 24, .inl fa)) :: (q75, .inl (T 0, 24, .inl fw)) :: WIN T v B O2 g ln un2 nx2 pl f0 f1 f2) := hD
                                              refine endI (r := bI (decide (on 8 k = 1))) (by rw [hO2]) ?_
                                              refine endI (r := 0) (by rw [m8]; decide) ?_
                                              refine lv_iconst (v := 1) hx hb dL_night_349 (by decide) ?_
                                              refine lv_icmp_ne (tgt := 412) hx hb dL_night_350 (by decide) (fun c350 => ?_) (fun c350 => ?_)
                                              ·
                                                refine lv_aload_n hx hb dL_night_412 rfl (lv_at hl 15 rfl) ?_
                                                refine lv_bipush (v := 29) hx hb dL_night_413 (by decide) ?_
                                                refine lv_iload hx hb dL_night_415 (lv_at hl 2 rfl) ?_
                                                refine lqSi (As := [.ref (v 0), .int (29), .int (nI k)]) (rest := []) ⟨hx, hb, hml, hown, hts⟩ (c_ask_isDismissed l hl9 D T aK aV v B O2 g ln un2 nx2 pl f0 f1 f2 k N K C (nt + 1) hOI2 (by omega) _) (va_cwS 3 hts (gC gl_L_call__) rfl rfl rfl (by decide +kernel) ⟨Nat.le_of_ble_eq_true rfl, Nat.le_of_ble_eq_true rfl⟩) (Foc.pre [(q239, .inl (T 0, 5, .inl fh)), (q86, .inl (T 0, 5, .inl fo)), (q81, .inl (T 0, 24, .inl fa)), (q75, .inl (T 0, 24, .inl fw))] _ _) hC hNC hK hP hD hS hA rfl hl.1 rfl (Nat.le_of_ble_eq_true rfl) ⟨by show _ ≤ 8800; omega, by show _ ≤ 52800; omega⟩ dL_night_417 (fun H locs hP hD hS => ?_)
                                                have hP : va_P D vwCl ((q239, .inl (T 0, 5, .inl fh)) :: (q86, .inl (T 0, 5, .inl fo)) :: (q81, .inl (T 0, 24, .inl fa)) :: (q75, .inl (T 0, 24, .inl fw)) :: WIN T v B O2 g ln un2 nx2 pl f0 f1 f2) H := hP
                                                have hD : va_D A ((q239, .inl (T 0, 5, .inl fh)) :: (q86, .inl (T 0, 5, .inl fo)) :: (q81, .inl (T 0, 24, .inl fa)) :: (q75, .inl (T 0, 24, .inl fw)) :: WIN T v B O2 g ln un2 nx2 pl f0 f1 f2) := hD
                                                refine endI (r := bI (decide (on 8 k = 2))) (by rw [hO2]) ?_
                                                refine endI (r := 0) (by rw [m8]; decide) ?_
                                                refine lv_iconst (v := 1) hx hb dL_night_420 (by decide) ?_
                                                refine lv_icmp_ne (tgt := 470) hx hb dL_night_421 (by decide) (fun c421 => ?_) (fun c421 => ?_)
                                                ·
                                                  refine lv_aload_n hx hb dL_night_470 rfl (lv_at hl 15 rfl) ?_
                                                  refine lv_bipush (v := 30) hx hb dL_night_471 (by decide) ?_
                                                  refine lv_iload hx hb dL_night_473 (lv_at hl 2 rfl) ?_
                                                  refine lqSi (As := [.ref (v 0), .int (30), .int (nI k)]) (rest := []) ⟨hx, hb, hml, hown, hts⟩ (c_ask_isGivenUp l hl9 D T aK aV v B O2 g ln un2 nx2 pl f0 f1 f2 k N K C (nt + 1) hOI2 (by omega) _) (va_cwS 3 hts (gC gl_L_call__) rfl rfl rfl (by decide +kernel) ⟨Nat.le_of_ble_eq_true rfl, Nat.le_of_ble_eq_true rfl⟩) (Foc.pre [(q239, .inl (T 0, 5, .inl fh)), (q86, .inl (T 0, 5, .inl fo)), (q81, .inl (T 0, 24, .inl fa)), (q75, .inl (T 0, 24, .inl fw))] _ _) hC hNC hK hP hD hS hA rfl hl.1 rfl (Nat.le_of_ble_eq_true rfl) ⟨by show _ ≤ 8800; omega, by show _ ≤ 52800; omega⟩ dL_night_475 (fun H locs hP hD hS => ?_)
                                                  have hP : va_P D vwCl ((q239, .inl (T 0, 5, .inl fh)) :: (q86, .inl (T 0, 5, .inl fo)) :: (q81, .inl (T 0, 24, .inl fa)) :: (q75, .inl (T 0, 24, .inl fw)) :: WIN T v B O2 g ln un2 nx2 pl f0 f1 f2) H := hP
                                                  have hD : va_D A ((q239, .inl (T 0, 5, .inl fh)) :: (q86, .inl (T 0, 5, .inl fo)) :: (q81, .inl (T 0, 24, .inl fa)) :: (q75, .inl (T 0, 24, .inl fw)) :: WIN T v B O2 g ln un2 nx2 pl f0 f1 f2) := hD
                                                  refine endI (r := bI (decide (on 8 k = 3))) (by rw [hO2]) ?_
                                                  refine endI (r := 0) (by rw [m8]; decide) ?_
                                                  refine lv_iload hx hb dL_night_478 (lv_at hl 1 rfl) ?_
                                                  refine lv_bipush (v := 56) hx hb dL_night_480 (by decide) ?_
                                                  refine lv_icmp_ne (tgt := 489) hx hb dL_night_482 (by decide) (fun c482 => ?_) (fun c482 => ?_)
                                                  ·
                                                    have c482 : ¬ ((nt + 1) - ff) = 56 := fun h9 => c482 ((nI_eq (a := ((nt + 1) - ff)) (b := 56) (by omega) (by omega)).mpr h9)
                                                    refine lv_iconst (v := 0) hx hb dL_night_489 (by decide) ?_
                                                    refine lv_icmp_ne (tgt := 558) hx hb dL_night_490 (by decide) (fun c490 => ?_) (fun c490 => ?_)
                                                    ·
                                                      exact absurd c490 (by decide)
                                                    ·
                                                      refine lv_aload_n hx hb dL_night_493 rfl (lv_at hl 15 rfl) ?_
                                                      refine lv_bipush (v := 25) hx hb dL_night_494 (by decide) ?_
                                                      refine lv_iload hx hb dL_night_496 (lv_at hl 2 rfl) ?_
                                                      refine lqSi (As := [.ref (v 0), .int (25), .int (nI k)]) (rest := []) ⟨hx, hb, hml, hown, hts⟩ (c_ask_angerOf l hl9 D T aK aV v B O2 g ln un2 nx2 pl f0 f1 f2 k N K C (nt + 1) hOI2 (by omega) _) (va_cwS 3 hts (gC gl_L_call__) rfl rfl rfl (by decide +kernel) ⟨Nat.le_of_ble_eq_true rfl, Nat.le_of_ble_eq_true rfl⟩) (Foc.pre [(q239, .inl (T 0, 5, .inl fh)), (q86, .inl (T 0, 5, .inl fo)), (q81, .inl (T 0, 24, .inl fa)), (q75, .inl (T 0, 24, .inl fw))] _ _) hC hNC hK hP hD hS hA rfl hl.1 rfl (Nat.le_of_ble_eq_true rfl) ⟨by show _ ≤ 8800; omega, by show _ ≤ 52800; omega⟩ dL_night_498 (fun H locs hP hD hS => ?_)
                                                      have hP : va_P D vwCl ((q239, .inl (T 0, 5, .inl fh)) :: (q86, .inl (T 0, 5, .inl fo)) :: (q81, .inl (T 0, 24, .inl fa)) :: (q75, .inl (T 0, 24, .inl fw)) :: WIN T v B O2 g ln un2 nx2 pl f0 f1 f2) H := hP
                                                      have hD : va_D A ((q239, .inl (T 0, 5, .inl fh)) :: (q86, .inl (T 0, 5, .inl fo)) :: (q81, .inl (T 0, 24, .inl fa)) :: (q75, .inl (T 0, 24, .inl fw)) :: WIN T v B O2 g ln un2 nx2 pl f0 f1 f2) := hD
                                                      refine endI (r := on 6 k) (by rw [hO2]) ?_
                                                      refine endI (r := nI (angN aa (nt + 1 - ff))) (mg) ?_
                                                      refine lv_iload hx hb dL_night_501 (lv_at hl 1 rfl) ?_
                                                      refine lv_bipush (v := 7) hx hb dL_night_503 (by decide) ?_
                                                      refine lv_irem hx hb dL_night_505 (by decide) ?_
                                                      refine endI (r := nI (((nt + 1) - ff) % 7)) (pk_rem (a := (nt + 1) - ff) (d := 7) (by omega) (by decide) (by decide)) ?_
                                                      refine lv_if_ne (tgt := 524) hx hb dL_night_506 (by decide) (fun c506 => ?_) (fun c506 => ?_)
                                                      ·
                                                        have c506 : ¬ (((nt + 1) - ff) % 7) = 0 := fun h9 => c506 ((nI_eq (a := (((nt + 1) - ff) % 7)) (b := 0) (by omega) (by omega)).mpr h9)
                                                        refine lv_aload hx hb dL_night_524 (lv_at hl 6 rfl) ?_
                                                        refine lv_iload hx hb dL_night_526 (lv_at hl 2 rfl) ?_
                                                        refine aldI hx hb hK hP 2 0 rfl rfl (k) rfl (by omega) (by decide) dL_night_528 ?_
                                                        refine endI (r := nI aa) (by rw [hfa9 k (by omega)]; exact e6) ?_
                                                        refine lv_icmp_ne (tgt := 558) hx hb dL_night_529 (by decide) (fun c529 => ?_) (fun c529 => ?_)
                                                        ·
                                                          have c529 : ¬ (angN aa (nt + 1 - ff)) = aa := fun h9 => c529 ((nI_eq (a := (angN aa (nt + 1 - ff))) (b := aa) (by omega) (by omega)).mpr h9)
                                                          exact absurd (by unfold angN; first | rw [if_pos c506] | rw [if_neg c506]) c529
                                                        ·
                                                          have c529 : (angN aa (nt + 1 - ff)) = aa := (nI_eq (a := (angN aa (nt + 1 - ff))) (b := aa) (by omega) (by omega)).mp c529
                                                          refine lv_iload hx hb dL_night_532 (lv_at hl 1 rfl) ?_
                                                          refine lv_bipush (v := 56) hx hb dL_night_534 (by decide) ?_
                                                          refine lv_icmp_lt (tgt := 554) hx hb dL_night_536 (by decide) (fun c536 => ?_) (fun c536 => ?_)
                                                          ·
                                                            have c536 : ((nt + 1) - ff) < 56 := (nI_ltI (a := ((nt + 1) - ff)) (b := 56) (by omega) (by omega)).mp c536
                                                            refine lv_iconst (v := 1) hx hb dL_night_554 (by decide) ?_
                                                            refine lv_goto (tgt := 559) hx hb dL_night_555 (by decide) ?_
                                                            refine lv_istore (lv' := [(12, .int (1)), (16, .int (-101)), (15, .int (nI ((nt + 1) - ff))), (14, .int (nI k)), (13, .ref (q239)), (11, .ref (q86)), (10, .ref (q81)), (9, .ref (q75)), (8, .int ((cntC (O 0) 1 N) + (cntC (O 0) 2 N))), (7, .int ((O 0) 0 6)), (6, .int (nI cc)), (5, .int ((nightC N K C nt (O 0)).1)), (4, .int (nI nt)), (3, .int (nI N)), (1, .long (stC (O 0) N K C)), (0, .ref (v 0))]) hx hb dL_night_559 hl (by decide) rfl (fun ls hl => ?_)
                                                            refine lv_iinc (v := nI (k + 1)) (lv' := [(14, .int (nI (k + 1))), (12, .int (1)), (16, .int (-101)), (15, .int (nI ((nt + 1) - ff))), (13, .ref (q239)), (11, .ref (q86)), (10, .ref (q81)), (9, .ref (q75)), (8, .int ((cntC (O 0) 1 N) + (cntC (O 0) 2 N))), (7, .int ((O 0) 0 6)), (6, .int (nI cc)), (5, .int ((nightC N K C nt (O 0)).1)), (4, .int (nI nt)), (3, .int (nI N)), (1, .long (stC (O 0) N K C)), (0, .ref (v 0))]) hx hb dL_night_561 hl (k := 3) rfl (nI_1 _) (by decide) rfl (fun ls hl => ?_)
                                                            refine lv_goto (tgt := 246) hx hb dL_night_564 (by decide) ?_
                                                            exact ih246 (k + 1) fh _ _ (by omega) (by omega) (by intro j hj; have h9 := hfh j hj; first | (refine Eq.trans ?_ (h_keep h9 (by rw [decide_eq_false n0, Bool.false_and])); rfl) | (refine Eq.trans ?_ (h_keep h9 (by rw [m10, decide_eq_false (p := (-1 : Int32) = nI j) (fun e => nI_nneg (by omega) (by decide) e.symm), Bool.and_false])); rfl) | exact h_take h9 n0 m10 (by omega) (by omega)) (by omega) (by omega) _ _ _ hP hD hS (lv_sub hl [0, 4, 1, 5, 6, 7, 8, 9, 10, 11, 12, 13, 14, 15] rfl)
                                                          ·
                                                            have c536 : ¬ ((nt + 1) - ff) < 56 := fun h9 => c536 ((nI_ltI (a := ((nt + 1) - ff)) (b := 56) (by omega) (by omega)).mpr h9)
                                                            refine lv_aload_n hx hb dL_night_539 rfl (lv_at hl 15 rfl) ?_
                                                            refine lv_bipush (v := 31) hx hb dL_night_540 (by decide) ?_
                                                            refine lv_iload hx hb dL_night_542 (lv_at hl 2 rfl) ?_
                                                            refine lqSi (As := [.ref (v 0), .int (31), .int (nI k)]) (rest := []) ⟨hx, hb, hml, hown, hts⟩ (c_ask_closedIn l hl9 D T aK aV v B O2 g ln un2 nx2 pl f0 f1 f2 k N K C (nt + 1) hOI2 (by omega) _) (va_cwS 3 hts (gC gl_L_call__) rfl rfl rfl (by decide +kernel) ⟨Nat.le_of_ble_eq_true rfl, Nat.le_of_ble_eq_true rfl⟩) (Foc.pre [(q239, .inl (T 0, 5, .inl fh)), (q86, .inl (T 0, 5, .inl fo)), (q81, .inl (T 0, 24, .inl fa)), (q75, .inl (T 0, 24, .inl fw))] _ _) hC hNC hK hP hD hS hA rfl hl.1 rfl (Nat.le_of_ble_eq_true rfl) ⟨by show _ ≤ 8800; omega, by show _ ≤ 52800; omega⟩ dL_night_544 (fun H locs hP hD hS => ?_)
                                                            have hP : va_P D vwCl ((q239, .inl (T 0, 5, .inl fh)) :: (q86, .inl (T 0, 5, .inl fo)) :: (q81, .inl (T 0, 24, .inl fa)) :: (q75, .inl (T 0, 24, .inl fw)) :: WIN T v B O2 g ln un2 nx2 pl f0 f1 f2) H := hP
                                                            have hD : va_D A ((q239, .inl (T 0, 5, .inl fh)) :: (q86, .inl (T 0, 5, .inl fo)) :: (q81, .inl (T 0, 24, .inl fa)) :: (q75, .inl (T 0, 24, .inl fw)) :: WIN T v B O2 g ln un2 nx2 pl f0 f1 f2) := hD
                                                            refine endI (r := if on 8 k = 0 then -101 else on 9 k) (by rw [hO2]) ?_
                                                            refine lv_iload hx hb dL_night_547 (lv_at hl 12 rfl) ?_
                                                            refine lv_iconst (v := 1) hx hb dL_night_549 (by decide) ?_
                                                            refine lv_iadd hx hb dL_night_550 ?_
                                                            refine endI (r := nI (nt + 1)) (nI_add _ _) ?_
                                                            refine lv_icmp_ne (tgt := 558) hx hb dL_night_551 (by decide) (fun c551 => ?_) (fun c551 => ?_)
                                                            ·
                                                              exfalso; omega
                                                            ·
                                                              refine lv_iconst (v := 1) hx hb dL_night_554 (by decide) ?_
                                                              refine lv_goto (tgt := 559) hx hb dL_night_555 (by decide) ?_
                                                              refine lv_istore (lv' := [(12, .int (1)), (16, .int (-101)), (15, .int (nI ((nt + 1) - ff))), (14, .int (nI k)), (13, .ref (q239)), (11, .ref (q86)), (10, .ref (q81)), (9, .ref (q75)), (8, .int ((cntC (O 0) 1 N) + (cntC (O 0) 2 N))), (7, .int ((O 0) 0 6)), (6, .int (nI cc)), (5, .int ((nightC N K C nt (O 0)).1)), (4, .int (nI nt)), (3, .int (nI N)), (1, .long (stC (O 0) N K C)), (0, .ref (v 0))]) hx hb dL_night_559 hl (by decide) rfl (fun ls hl => ?_)
                                                              refine lv_iinc (v := nI (k + 1)) (lv' := [(14, .int (nI (k + 1))), (12, .int (1)), (16, .int (-101)), (15, .int (nI ((nt + 1) - ff))), (13, .ref (q239)), (11, .ref (q86)), (10, .ref (q81)), (9, .ref (q75)), (8, .int ((cntC (O 0) 1 N) + (cntC (O 0) 2 N))), (7, .int ((O 0) 0 6)), (6, .int (nI cc)), (5, .int ((nightC N K C nt (O 0)).1)), (4, .int (nI nt)), (3, .int (nI N)), (1, .long (stC (O 0) N K C)), (0, .ref (v 0))]) hx hb dL_night_561 hl (k := 3) rfl (nI_1 _) (by decide) rfl (fun ls hl => ?_)
                                                              refine lv_goto (tgt := 246) hx hb dL_night_564 (by decide) ?_
                                                              exact ih246 (k + 1) fh _ _ (by omega) (by omega) (by intro j hj; have h9 := hfh j hj; first | (refine Eq.trans ?_ (h_keep h9 (by rw [decide_eq_false n0, Bool.false_and])); rfl) | (refine Eq.trans ?_ (h_keep h9 (by rw [m10, decide_eq_false (p := (-1 : Int32) = nI j) (fun e => nI_nneg (by omega) (by decide) e.symm), Bool.and_false])); rfl) | exact h_take h9 n0 m10 (by omega) (by omega)) (by omega) (by omega) _ _ _ hP hD hS (lv_sub hl [0, 4, 1, 5, 6, 7, 8, 9, 10, 11, 12, 13, 14, 15] rfl)
                                                      ·
                                                        have c506 : (((nt + 1) - ff) % 7) = 0 := (nI_eq (a := (((nt + 1) - ff) % 7)) (b := 0) (by omega) (by omega)).mp c506
                                                        refine lv_bipush (v := 9) hx hb dL_night_509 (by decide) ?_
                                                        refine lv_aload hx hb dL_night_511 (lv_at hl 6 rfl) ?_
                                                        refine lv_iload hx hb dL_night_513 (lv_at hl 2 rfl) ?_
                                                        refine aldI hx hb hK hP 2 0 rfl rfl (k) rfl (by omega) (by decide) dL_night_515 ?_
                                                        refine endI (r := nI aa) (by rw [hfa9 k (by omega)]; exact e6) ?_
                                                        refine lv_iconst (v := 1) hx hb dL_night_516 (by decide) ?_
                                                        refine lv_iadd hx hb dL_night_517 ?_
                                                        refine endI (r := nI (aa + 1)) (nI_add _ _) ?_
                                                        refine va_mmin hx hb (hml.trans hl.1.symm) hown k1153 k495 k478 k496 (by decide) (Nat.le_of_ble_eq_true rfl) (by show _ ≤ 8800; omega) (by show _ ≤ 52800; omega) dL_night_518 ?_
                                                        refine endI (r := nI (incA aa)) (min9 ha9) ?_
                                                        refine lv_goto (tgt := 529) hx hb dL_night_521 (by decide) ?_
                                                        refine lv_icmp_ne (tgt := 558) hx hb dL_night_529 (by decide) (fun c529 => ?_) (fun c529 => ?_)
                                                        ·
                                                          have c529 : ¬ (angN aa (nt + 1 - ff)) = (incA aa) := fun h9 => c529 ((nI_eq (a := (angN aa (nt + 1 - ff))) (b := (incA aa)) (by omega) (by omega)).mpr h9)
                                                          exact absurd (by unfold angN; first | rw [if_pos c506] | rw [if_neg c506]) c529
                                                        ·
                                                          have c529 : (angN aa (nt + 1 - ff)) = (incA aa) := (nI_eq (a := (angN aa (nt + 1 - ff))) (b := (incA aa)) (by omega) (by omega)).mp c529
                                                          refine lv_iload hx hb dL_night_532 (lv_at hl 1 rfl) ?_
                                                          refine lv_bipush (v := 56) hx hb dL_night_534 (by decide) ?_
                                                          refine lv_icmp_lt (tgt := 554) hx hb dL_night_536 (by decide) (fun c536 => ?_) (fun c536 => ?_)
                                                          ·
                                                            have c536 : ((nt + 1) - ff) < 56 := (nI_ltI (a := ((nt + 1) - ff)) (b := 56) (by omega) (by omega)).mp c536
                                                            refine lv_iconst (v := 1) hx hb dL_night_554 (by decide) ?_
                                                            refine lv_goto (tgt := 559) hx hb dL_night_555 (by decide) ?_
                                                            refine lv_istore (lv' := [(12, .int (1)), (16, .int (-101)), (15, .int (nI ((nt + 1) - ff))), (14, .int (nI k)), (13, .ref (q239)), (11, .ref (q86)), (10, .ref (q81)), (9, .ref (q75)), (8, .int ((cntC (O 0) 1 N) + (cntC (O 0) 2 N))), (7, .int ((O 0) 0 6)), (6, .int (nI cc)), (5, .int ((nightC N K C nt (O 0)).1)), (4, .int (nI nt)), (3, .int (nI N)), (1, .long (stC (O 0) N K C)), (0, .ref (v 0))]) hx hb dL_night_559 hl (by decide) rfl (fun ls hl => ?_)
                                                            refine lv_iinc (v := nI (k + 1)) (lv' := [(14, .int (nI (k + 1))), (12, .int (1)), (16, .int (-101)), (15, .int (nI ((nt + 1) - ff))), (13, .ref (q239)), (11, .ref (q86)), (10, .ref (q81)), (9, .ref (q75)), (8, .int ((cntC (O 0) 1 N) + (cntC (O 0) 2 N))), (7, .int ((O 0) 0 6)), (6, .int (nI cc)), (5, .int ((nightC N K C nt (O 0)).1)), (4, .int (nI nt)), (3, .int (nI N)), (1, .long (stC (O 0) N K C)), (0, .ref (v 0))]) hx hb dL_night_561 hl (k := 3) rfl (nI_1 _) (by decide) rfl (fun ls hl => ?_)
                                                            refine lv_goto (tgt := 246) hx hb dL_night_564 (by decide) ?_
                                                            exact ih246 (k + 1) fh _ _ (by omega) (by omega) (by intro j hj; have h9 := hfh j hj; first | (refine Eq.trans ?_ (h_keep h9 (by rw [decide_eq_false n0, Bool.false_and])); rfl) | (refine Eq.trans ?_ (h_keep h9 (by rw [m10, decide_eq_false (p := (-1 : Int32) = nI j) (fun e => nI_nneg (by omega) (by decide) e.symm), Bool.and_false])); rfl) | exact h_take h9 n0 m10 (by omega) (by omega)) (by omega) (by omega) _ _ _ hP hD hS (lv_sub hl [0, 4, 1, 5, 6, 7, 8, 9, 10, 11, 12, 13, 14, 15] rfl)
                                                          ·
                                                            have c536 : ¬ ((nt + 1) - ff) < 56 := fun h9 => c536 ((nI_ltI (a := ((nt + 1) - ff)) (b := 56) (by omega) (by omega)).mpr h9)
                                                            refine lv_aload_n hx hb dL_night_539 rfl (lv_at hl 15 rfl) ?_
                                                            refine lv_bipush (v := 31) hx hb dL_night_540 (by decide) ?_
                                                            refine lv_iload hx hb dL_night_542 (lv_at hl 2 rfl) ?_
                                                            refine lqSi (As := [.ref (v 0), .int (31), .int (nI k)]) (rest := []) ⟨hx, hb, hml, hown, hts⟩ (c_ask_closedIn l hl9 D T aK aV v B O2 g ln un2 nx2 pl f0 f1 f2 k N K C (nt + 1) hOI2 (by omega) _) (va_cwS 3 hts (gC gl_L_call__) rfl rfl rfl (by decide +kernel) ⟨Nat.le_of_ble_eq_true rfl, Nat.le_of_ble_eq_true rfl⟩) (Foc.pre [(q239, .inl (T 0, 5, .inl fh)), (q86, .inl (T 0, 5, .inl fo)), (q81, .inl (T 0, 24, .inl fa)), (q75, .inl (T 0, 24, .inl fw))] _ _) hC hNC hK hP hD hS hA rfl hl.1 rfl (Nat.le_of_ble_eq_true rfl) ⟨by show _ ≤ 8800; omega, by show _ ≤ 52800; omega⟩ dL_night_544 (fun H locs hP hD hS => ?_)
                                                            have hP : va_P D vwCl ((q239, .inl (T 0, 5, .inl fh)) :: (q86, .inl (T 0, 5, .inl fo)) :: (q81, .inl (T 0, 24, .inl fa)) :: (q75, .inl (T 0, 24, .inl fw)) :: WIN T v B O2 g ln un2 nx2 pl f0 f1 f2) H := hP
                                                            have hD : va_D A ((q239, .inl (T 0, 5, .inl fh)) :: (q86, .inl (T 0, 5, .inl fo)) :: (q81, .inl (T 0, 24, .inl fa)) :: (q75, .inl (T 0, 24, .inl fw)) :: WIN T v B O2 g ln un2 nx2 pl f0 f1 f2) := hD
                                                            refine endI (r := if on 8 k = 0 then -101 else on 9 k) (by rw [hO2]) ?_
                                                            refine lv_iload hx hb dL_night_547 (lv_at hl 12 rfl) ?_
                                                            refine lv_iconst (v := 1) hx hb dL_night_549 (by decide) ?_
                                                            refine lv_iadd hx hb dL_night_550 ?_
                                                            refine endI (r := nI (nt + 1)) (nI_add _ _) ?_
                                                            refine lv_icmp_ne (tgt := 558) hx hb dL_night_551 (by decide) (fun c551 => ?_) (fun c551 => ?_)
                                                            ·
                                                              exfalso; omega
                                                            ·
                                                              refine lv_iconst (v := 1) hx hb dL_night_554 (by decide) ?_
                                                              refine lv_goto (tgt := 559) hx hb dL_night_555 (by decide) ?_
                                                              refine lv_istore (lv' := [(12, .int (1)), (16, .int (-101)), (15, .int (nI ((nt + 1) - ff))), (14, .int (nI k)), (13, .ref (q239)), (11, .ref (q86)), (10, .ref (q81)), (9, .ref (q75)), (8, .int ((cntC (O 0) 1 N) + (cntC (O 0) 2 N))), (7, .int ((O 0) 0 6)), (6, .int (nI cc)), (5, .int ((nightC N K C nt (O 0)).1)), (4, .int (nI nt)), (3, .int (nI N)), (1, .long (stC (O 0) N K C)), (0, .ref (v 0))]) hx hb dL_night_559 hl (by decide) rfl (fun ls hl => ?_)
                                                              refine lv_iinc (v := nI (k + 1)) (lv' := [(14, .int (nI (k + 1))), (12, .int (1)), (16, .int (-101)), (15, .int (nI ((nt + 1) - ff))), (13, .ref (q239)), (11, .ref (q86)), (10, .ref (q81)), (9, .ref (q75)), (8, .int ((cntC (O 0) 1 N) + (cntC (O 0) 2 N))), (7, .int ((O 0) 0 6)), (6, .int (nI cc)), (5, .int ((nightC N K C nt (O 0)).1)), (4, .int (nI nt)), (3, .int (nI N)), (1, .long (stC (O 0) N K C)), (0, .ref (v 0))]) hx hb dL_night_561 hl (k := 3) rfl (nI_1 _) (by decide) rfl (fun ls hl => ?_)
                                                              refine lv_goto (tgt := 246) hx hb dL_night_564 (by decide) ?_
                                                              exact ih246 (k + 1) fh _ _ (by omega) (by omega) (by intro j hj; have h9 := hfh j hj; first | (refine Eq.trans ?_ (h_keep h9 (by rw [decide_eq_false n0, Bool.false_and])); rfl) | (refine Eq.trans ?_ (h_keep h9 (by rw [m10, decide_eq_false (p := (-1 : Int32) = nI j) (fun e => nI_nneg (by omega) (by decide) e.symm), Bool.and_false])); rfl) | exact h_take h9 n0 m10 (by omega) (by omega)) (by omega) (by omega) _ _ _ hP hD hS (lv_sub hl [0, 4, 1, 5, 6, 7, 8, 9, 10, 11, 12, 13, 14, 15] rfl)
                                                  ·
                                                    have c482 : ((nt + 1) - ff) = 56 := (nI_eq (a := ((nt + 1) - ff)) (b := 56) (by omega) (by omega)).mp c482
                                                    exfalso; omega
                                                ·
                                                  exact absurd c421 (by decide)
                                              ·
                                                exact absurd c350 (by decide)
                                            ·
                                              exact absurd c329 (by decide)
                                          ·
                                            exact absurd c277 (by decide)
                                        ·
                                          refine lv_iload hx hb dL_night_257 (lv_at hl 10 rfl) ?_
                                          refine lv_iconst (v := 1) hx hb dL_night_259 (by decide) ?_
                                          refine lv_iadd hx hb dL_night_260 ?_
                                          refine endI (r := nI (nt + 1)) (nI_add _ _) ?_
                                          refine lv_aload_n hx hb dL_night_261 rfl (lv_at hl 13 rfl) ?_
                                          refine lv_bipush (v := 26) hx hb dL_night_262 (by decide) ?_
                                          refine lv_iload hx hb dL_night_264 (lv_at hl 0 rfl) ?_
                                          refine lqSi (As := [.ref (v 0), .int (26), .int (nI k)]) (rest := [.int (nI (nt + 1))]) ⟨hx, hb, hml, hown, hts⟩ (c_ask_filedIn l hl9 D T aK aV v B O2 g ln un2 nx2 pl f0 f1 f2 k N K C (nt + 1) hOI2 (by omega) _) (va_cwS 3 hts (gC gl_L_call__) rfl rfl rfl (by decide +kernel) ⟨Nat.le_of_ble_eq_true rfl, Nat.le_of_ble_eq_true rfl⟩) (Foc.pre [(q239, .inl (T 0, 5, .inl fh)), (q86, .inl (T 0, 5, .inl fo)), (q81, .inl (T 0, 24, .inl fa)), (q75, .inl (T 0, 24, .inl fw))] _ _) hC hNC hK hP hD hS hA rfl hl.1 rfl (Nat.le_of_ble_eq_true rfl) ⟨by show _ ≤ 8800; omega, by show _ ≤ 52800; omega⟩ dL_night_266 (fun H locs hP hD hS => ?_)
                                          have hP : va_P D vwCl ((q239, .inl (T 0, 5, .inl fh)) :: (q86, .inl (T 0, 5, .inl fo)) :: (q81, .inl (T 0, 24, .inl fa)) :: (q75, .inl (T 0, 24, .inl fw)) :: WIN T v B O2 g ln un2 nx2 pl f0 f1 f2) H := hP
                                          have hD : va_D A ((q239, .inl (T 0, 5, .inl fh)) :: (q86, .inl (T 0, 5, .inl fo)) :: (q81, .inl (T 0, 24, .inl fa)) :: (q75, .inl (T 0, 24, .inl fw)) :: WIN T v B O2 g ln un2 nx2 pl f0 f1 f2) := hD
                                          refine endI (r := on 7 k) (by rw [hO2]) ?_
                                          refine endI (r := nI ff) (by rw [hr7]; exact e7) ?_
                                          refine lv_isub hx hb dL_night_269 ?_
                                          refine endI (r := nI ((nt + 1) - ff)) (pk_sub (a := nt + 1) (b := ff) (by omega)) ?_
                                          refine lv_istore (lv' := [(15, .int (nI ((nt + 1) - ff))), (14, .int (nI k)), (13, .ref (q239)), (12, .int (1)), (11, .ref (q86)), (10, .ref (q81)), (9, .ref (q75)), (8, .int ((cntC (O 0) 1 N) + (cntC (O 0) 2 N))), (7, .int ((O 0) 0 6)), (6, .int (nI cc)), (5, .int ((nightC N K C nt (O 0)).1)), (4, .int (nI nt)), (3, .int (nI N)), (1, .long (stC (O 0) N K C)), (0, .ref (v 0))]) hx hb dL_night_270 hl (by decide) rfl (fun ls hl => ?_)
                                          refine lv_aload hx hb dL_night_272 (lv_at hl 6 rfl) ?_
                                          refine lv_iload hx hb dL_night_274 (lv_at hl 1 rfl) ?_
                                          refine aldI hx hb hK hP 3 0 rfl rfl (k) rfl (by omega) (by decide) dL_night_276 ?_
                                          refine endI (r := 1) (by rw [hfw9 k (by omega), decide_eq_true n0]; rfl) ?_
                                          refine lv_if_ne (tgt := 317) hx hb dL_night_277 (by decide) (fun c277 => ?_) (fun c277 => ?_)
                                          ·
                                            refine lv_aload_n hx hb dL_night_317 rfl (lv_at hl 14 rfl) ?_
                                            refine lv_bipush (v := 32) hx hb dL_night_318 (by decide) ?_
                                            refine lv_iload hx hb dL_night_320 (lv_at hl 1 rfl) ?_
                                            refine lqSi (As := [.ref (v 0), .int (32), .int (nI k)]) (rest := []) ⟨hx, hb, hml, hown, hts⟩ (c_ask_clerkOf l hl9 D T aK aV v B O2 g ln un2 nx2 pl f0 f1 f2 k N K C (nt + 1) hOI2 (by omega) _) (va_cwS 3 hts (gC gl_L_call__) rfl rfl rfl (by decide +kernel) ⟨Nat.le_of_ble_eq_true rfl, Nat.le_of_ble_eq_true rfl⟩) (Foc.pre [(q239, .inl (T 0, 5, .inl fh)), (q86, .inl (T 0, 5, .inl fo)), (q81, .inl (T 0, 24, .inl fa)), (q75, .inl (T 0, 24, .inl fw))] _ _) hC hNC hK hP hD hS hA rfl hl.1 rfl (Nat.le_of_ble_eq_true rfl) ⟨by show _ ≤ 8800; omega, by show _ ≤ 52800; omega⟩ dL_night_322 (fun H locs hP hD hS => ?_)
                                            have hP : va_P D vwCl ((q239, .inl (T 0, 5, .inl fh)) :: (q86, .inl (T 0, 5, .inl fo)) :: (q81, .inl (T 0, 24, .inl fa)) :: (q75, .inl (T 0, 24, .inl fw)) :: WIN T v B O2 g ln un2 nx2 pl f0 f1 f2) H := hP
                                            have hD : va_D A ((q239, .inl (T 0, 5, .inl fh)) :: (q86, .inl (T 0, 5, .inl fo)) :: (q81, .inl (T 0, 24, .inl fa)) :: (q75, .inl (T 0, 24, .inl fw)) :: WIN T v B O2 g ln un2 nx2 pl f0 f1 f2) := hD
                                            refine endI (r := if on 10 k = -1 then -101 else on 10 k) (by rw [hO2]) ?_
                                            refine endI (r := -101) (if_pos m10) ?_
                                            refine lv_istore (lv' := [(16, .int (-101)), (15, .int (nI ((nt + 1) - ff))), (14, .int (nI k)), (13, .ref (q239)), (12, .int (1)), (11, .ref (q86)), (10, .ref (q81)), (9, .ref (q75)), (8, .int ((cntC (O 0) 1 N) + (cntC (O 0) 2 N))), (7, .int ((O 0) 0 6)), (6, .int (nI cc)), (5, .int ((nightC N K C nt (O 0)).1)), (4, .int (nI nt)), (3, .int (nI N)), (1, .long (stC (O 0) N K C)), (0, .ref (v 0))]) hx hb dL_night_325 hl (by decide) rfl (fun ls hl => ?_)
                                            refine lv_iload hx hb dL_night_327 (lv_at hl 0 rfl) ?_
                                            refine lv_if_lt (tgt := 341) hx hb dL_night_329 (by decide) (fun c329 => ?_) (fun c329 => ?_)
                                            ·
                                              refine lv_aload_n hx hb dL_night_341 rfl (lv_at hl 15 rfl) ?_
                                              refine lv_bipush (v := 28) hx hb dL_night_342 (by decide) ?_
                                              refine lv_iload hx hb dL_night_344 (lv_at hl 2 rfl) ?_
                                              refine lqSi (As := [.ref (v 0), .int (28), .int (nI k)]) (rest := []) ⟨hx, hb, hml, hown, hts⟩ (c_ask_isAnswered l hl9 D T aK aV v B O2 g ln un2 nx2 pl f0 f1 f2 k N K C (nt + 1) hOI2 (by omega) _) (va_cwS 3 hts (gC gl_L_call__) rfl rfl rfl (by decide +kernel) ⟨Nat.le_of_ble_eq_true rfl, Nat.le_of_ble_eq_true rfl⟩) (Foc.pre [(q239, .inl (T 0, 5, .inl fh)), (q86, .inl (T 0, 5, .inl fo)), (q81, .inl (T 0, 24, .inl fa)), (q75, .inl (T 0, 24, .inl fw))] _ _) hC hNC hK hP hD hS hA rfl hl.1 rfl (Nat.le_of_ble_eq_true rfl) ⟨by show _ ≤ 8800; omega, by show _ ≤ 52800; omega⟩ dL_night_346 (fun H locs hP hD hS => ?_)
                                              have hP : va_P D vwCl ((q239, .inl (T 0, 5, .inl fh)) :: (q86, .inl (T 0, 5, .inl fo)) :: (q81, .inl (T 0, 24, .inl fa)) :: (q75, .inl (T 0, 24, .inl fw)) :: WIN T v B O2 g ln un2 nx2 pl f0 f1 f2) H := hP
                                              have hD : va_D A ((q239, .inl (T 0, 5, .inl fh)) :: (q86, .inl (T 0, 5, .inl fo)) :: (q81, .inl (T 0, 24, .inl fa)) :: (q75, .inl (T 0, 24, .inl fw)) :: WIN T v B O2 g ln un2 nx2 pl f0 f1 f2) := hD
                                              refine endI (r := bI (decide (on 8 k = 1))) (by rw [hO2]) ?_
                                              refine endI (r := 0) (by rw [m8]; decide) ?_
                                              refine lv_iconst (v := 1) hx hb dL_night_349 (by decide) ?_
                                              refine lv_icmp_ne (tgt := 412) hx hb dL_night_350 (by decide) (fun c350 => ?_) (fun c350 => ?_)
                                              ·
                                                refine lv_aload_n hx hb dL_night_412 rfl (lv_at hl 15 rfl) ?_
                                                refine lv_bipush (v := 29) hx hb dL_night_413 (by decide) ?_
                                                refine lv_iload hx hb dL_night_415 (lv_at hl 2 rfl) ?_
                                                refine lqSi (As := [.ref (v 0), .int (29), .int (nI k)]) (rest := []) ⟨hx, hb, hml, hown, hts⟩ (c_ask_isDismissed l hl9 D T aK aV v B O2 g ln un2 nx2 pl f0 f1 f2 k N K C (nt + 1) hOI2 (by omega) _) (va_cwS 3 hts (gC gl_L_call__) rfl rfl rfl (by decide +kernel) ⟨Nat.le_of_ble_eq_true rfl, Nat.le_of_ble_eq_true rfl⟩) (Foc.pre [(q239, .inl (T 0, 5, .inl fh)), (q86, .inl (T 0, 5, .inl fo)), (q81, .inl (T 0, 24, .inl fa)), (q75, .inl (T 0, 24, .inl fw))] _ _) hC hNC hK hP hD hS hA rfl hl.1 rfl (Nat.le_of_ble_eq_true rfl) ⟨by show _ ≤ 8800; omega, by show _ ≤ 52800; omega⟩ dL_night_417 (fun H locs hP hD hS => ?_)
                                                have hP : va_P D vwCl ((q239, .inl (T 0, 5, .inl fh)) :: (q86, .inl (T 0, 5, .inl fo)) :: (q81, .inl (T 0, 24, .inl fa)) :: (q75, .inl (T 0, 24, .inl fw)) :: WIN T v B O2 g ln un2 nx2 pl f0 f1 f2) H := hP
                                                have hD : va_D A ((q239, .inl (T 0, 5, .inl fh)) :: (q86, .inl (T 0, 5, .inl fo)) :: (q81, .inl (T 0, 24, .inl fa)) :: (q75, .inl (T 0, 24, .inl fw)) :: WIN T v B O2 g ln un2 nx2 pl f0 f1 f2) := hD
                                                refine endI (r := bI (decide (on 8 k = 2))) (by rw [hO2]) ?_
                                                refine endI (r := 0) (by rw [m8]; decide) ?_
                                                refine lv_iconst (v := 1) hx hb dL_night_420 (by decide) ?_
                                                refine lv_icmp_ne (tgt := 470) hx hb dL_night_421 (by decide) (fun c421 => ?_) (fun c421 => ?_)
                                                ·
                                                  refine lv_aload_n hx hb dL_night_470 rfl (lv_at hl 15 rfl) ?_
                                                  refine lv_bipush (v := 30) hx hb dL_night_471 (by decide) ?_
                                                  refine lv_iload hx hb dL_night_473 (lv_at hl 2 rfl) ?_
                                                  refine lqSi (As := [.ref (v 0), .int (30), .int (nI k)]) (rest := []) ⟨hx, hb, hml, hown, hts⟩ (c_ask_isGivenUp l hl9 D T aK aV v B O2 g ln un2 nx2 pl f0 f1 f2 k N K C (nt + 1) hOI2 (by omega) _) (va_cwS 3 hts (gC gl_L_call__) rfl rfl rfl (by decide +kernel) ⟨Nat.le_of_ble_eq_true rfl, Nat.le_of_ble_eq_true rfl⟩) (Foc.pre [(q239, .inl (T 0, 5, .inl fh)), (q86, .inl (T 0, 5, .inl fo)), (q81, .inl (T 0, 24, .inl fa)), (q75, .inl (T 0, 24, .inl fw))] _ _) hC hNC hK hP hD hS hA rfl hl.1 rfl (Nat.le_of_ble_eq_true rfl) ⟨by show _ ≤ 8800; omega, by show _ ≤ 52800; omega⟩ dL_night_475 (fun H locs hP hD hS => ?_)
                                                  have hP : va_P D vwCl ((q239, .inl (T 0, 5, .inl fh)) :: (q86, .inl (T 0, 5, .inl fo)) :: (q81, .inl (T 0, 24, .inl fa)) :: (q75, .inl (T 0, 24, .inl fw)) :: WIN T v B O2 g ln un2 nx2 pl f0 f1 f2) H := hP
                                                  have hD : va_D A ((q239, .inl (T 0, 5, .inl fh)) :: (q86, .inl (T 0, 5, .inl fo)) :: (q81, .inl (T 0, 24, .inl fa)) :: (q75, .inl (T 0, 24, .inl fw)) :: WIN T v B O2 g ln un2 nx2 pl f0 f1 f2) := hD
                                                  refine endI (r := bI (decide (on 8 k = 3))) (by rw [hO2]) ?_
                                                  refine endI (r := 1) (by rw [m8]; decide) ?_
                                                  refine lv_iload hx hb dL_night_478 (lv_at hl 1 rfl) ?_
                                                  refine lv_bipush (v := 56) hx hb dL_night_480 (by decide) ?_
                                                  refine lv_icmp_ne (tgt := 489) hx hb dL_night_482 (by decide) (fun c482 => ?_) (fun c482 => ?_)
                                                  ·
                                                    have c482 : ¬ ((nt + 1) - ff) = 56 := fun h9 => c482 ((nI_eq (a := ((nt + 1) - ff)) (b := 56) (by omega) (by omega)).mpr h9)
                                                    exfalso; omega
                                                  ·
                                                    have c482 : ((nt + 1) - ff) = 56 := (nI_eq (a := ((nt + 1) - ff)) (b := 56) (by omega) (by omega)).mp c482
                                                    refine lv_iconst (v := 1) hx hb dL_night_485 (by decide) ?_
                                                    refine lv_goto (tgt := 490) hx hb dL_night_486 (by decide) ?_
                                                    refine lv_icmp_ne (tgt := 558) hx hb dL_night_490 (by decide) (fun c490 => ?_) (fun c490 => ?_)
                                                    ·
                                                      exact absurd c490 (by decide)
                                                    ·
                                                      refine lv_aload_n hx hb dL_night_493 rfl (lv_at hl 15 rfl) ?_
                                                      refine lv_bipush (v := 25) hx hb dL_night_494 (by decide) ?_
                                                      refine lv_iload hx hb dL_night_496 (lv_at hl 2 rfl) ?_
                                                      refine lqSi (As := [.ref (v 0), .int (25), .int (nI k)]) (rest := []) ⟨hx, hb, hml, hown, hts⟩ (c_ask_angerOf l hl9 D T aK aV v B O2 g ln un2 nx2 pl f0 f1 f2 k N K C (nt + 1) hOI2 (by omega) _) (va_cwS 3 hts (gC gl_L_call__) rfl rfl rfl (by decide +kernel) ⟨Nat.le_of_ble_eq_true rfl, Nat.le_of_ble_eq_true rfl⟩) (Foc.pre [(q239, .inl (T 0, 5, .inl fh)), (q86, .inl (T 0, 5, .inl fo)), (q81, .inl (T 0, 24, .inl fa)), (q75, .inl (T 0, 24, .inl fw))] _ _) hC hNC hK hP hD hS hA rfl hl.1 rfl (Nat.le_of_ble_eq_true rfl) ⟨by show _ ≤ 8800; omega, by show _ ≤ 52800; omega⟩ dL_night_498 (fun H locs hP hD hS => ?_)
                                                      have hP : va_P D vwCl ((q239, .inl (T 0, 5, .inl fh)) :: (q86, .inl (T 0, 5, .inl fo)) :: (q81, .inl (T 0, 24, .inl fa)) :: (q75, .inl (T 0, 24, .inl fw)) :: WIN T v B O2 g ln un2 nx2 pl f0 f1 f2) H := hP
                                                      have hD : va_D A ((q239, .inl (T 0, 5, .inl fh)) :: (q86, .inl (T 0, 5, .inl fo)) :: (q81, .inl (T 0, 24, .inl fa)) :: (q75, .inl (T 0, 24, .inl fw)) :: WIN T v B O2 g ln un2 nx2 pl f0 f1 f2) := hD
                                                      refine endI (r := on 6 k) (by rw [hO2]) ?_
                                                      refine endI (r := nI (angN aa (nt + 1 - ff))) (mg) ?_
                                                      refine lv_iload hx hb dL_night_501 (lv_at hl 1 rfl) ?_
                                                      refine lv_bipush (v := 7) hx hb dL_night_503 (by decide) ?_
                                                      refine lv_irem hx hb dL_night_505 (by decide) ?_
                                                      refine endI (r := nI (((nt + 1) - ff) % 7)) (pk_rem (a := (nt + 1) - ff) (d := 7) (by omega) (by decide) (by decide)) ?_
                                                      refine lv_if_ne (tgt := 524) hx hb dL_night_506 (by decide) (fun c506 => ?_) (fun c506 => ?_)
                                                      ·
                                                        have c506 : ¬ (((nt + 1) - ff) % 7) = 0 := fun h9 => c506 ((nI_eq (a := (((nt + 1) - ff) % 7)) (b := 0) (by omega) (by omega)).mpr h9)
                                                        refine lv_aload hx hb dL_night_524 (lv_at hl 6 rfl) ?_
                                                        refine lv_iload hx hb dL_night_526 (lv_at hl 2 rfl) ?_
                                                        refine aldI hx hb hK hP 2 0 rfl rfl (k) rfl (by omega) (by decide) dL_night_528 ?_
                                                        refine endI (r := nI aa) (by rw [hfa9 k (by omega)]; exact e6) ?_
                                                        refine lv_icmp_ne (tgt := 558) hx hb dL_night_529 (by decide) (fun c529 => ?_) (fun c529 => ?_)
                                                        ·
                                                          have c529 : ¬ (angN aa (nt + 1 - ff)) = aa := fun h9 => c529 ((nI_eq (a := (angN aa (nt + 1 - ff))) (b := aa) (by omega) (by omega)).mpr h9)
                                                          exact absurd (by unfold angN; first | rw [if_pos c506] | rw [if_neg c506]) c529
                                                        ·
                                                          have c529 : (angN aa (nt + 1 - ff)) = aa := (nI_eq (a := (angN aa (nt + 1 - ff))) (b := aa) (by omega) (by omega)).mp c529
                                                          refine lv_iload hx hb dL_night_532 (lv_at hl 1 rfl) ?_
                                                          refine lv_bipush (v := 56) hx hb dL_night_534 (by decide) ?_
                                                          refine lv_icmp_lt (tgt := 554) hx hb dL_night_536 (by decide) (fun c536 => ?_) (fun c536 => ?_)
                                                          ·
                                                            have c536 : ((nt + 1) - ff) < 56 := (nI_ltI (a := ((nt + 1) - ff)) (b := 56) (by omega) (by omega)).mp c536
                                                            refine lv_iconst (v := 1) hx hb dL_night_554 (by decide) ?_
                                                            refine lv_goto (tgt := 559) hx hb dL_night_555 (by decide) ?_
                                                            refine lv_istore (lv' := [(12, .int (1)), (16, .int (-101)), (15, .int (nI ((nt + 1) - ff))), (14, .int (nI k)), (13, .ref (q239)), (11, .ref (q86)), (10, .ref (q81)), (9, .ref (q75)), (8, .int ((cntC (O 0) 1 N) + (cntC (O 0) 2 N))), (7, .int ((O 0) 0 6)), (6, .int (nI cc)), (5, .int ((nightC N K C nt (O 0)).1)), (4, .int (nI nt)), (3, .int (nI N)), (1, .long (stC (O 0) N K C)), (0, .ref (v 0))]) hx hb dL_night_559 hl (by decide) rfl (fun ls hl => ?_)
                                                            refine lv_iinc (v := nI (k + 1)) (lv' := [(14, .int (nI (k + 1))), (12, .int (1)), (16, .int (-101)), (15, .int (nI ((nt + 1) - ff))), (13, .ref (q239)), (11, .ref (q86)), (10, .ref (q81)), (9, .ref (q75)), (8, .int ((cntC (O 0) 1 N) + (cntC (O 0) 2 N))), (7, .int ((O 0) 0 6)), (6, .int (nI cc)), (5, .int ((nightC N K C nt (O 0)).1)), (4, .int (nI nt)), (3, .int (nI N)), (1, .long (stC (O 0) N K C)), (0, .ref (v 0))]) hx hb dL_night_561 hl (k := 3) rfl (nI_1 _) (by decide) rfl (fun ls hl => ?_)
                                                            refine lv_goto (tgt := 246) hx hb dL_night_564 (by decide) ?_
                                                            exact ih246 (k + 1) fh _ _ (by omega) (by omega) (by intro j hj; have h9 := hfh j hj; first | (refine Eq.trans ?_ (h_keep h9 (by rw [decide_eq_false n0, Bool.false_and])); rfl) | (refine Eq.trans ?_ (h_keep h9 (by rw [m10, decide_eq_false (p := (-1 : Int32) = nI j) (fun e => nI_nneg (by omega) (by decide) e.symm), Bool.and_false])); rfl) | exact h_take h9 n0 m10 (by omega) (by omega)) (by omega) (by omega) _ _ _ hP hD hS (lv_sub hl [0, 4, 1, 5, 6, 7, 8, 9, 10, 11, 12, 13, 14, 15] rfl)
                                                          ·
                                                            have c536 : ¬ ((nt + 1) - ff) < 56 := fun h9 => c536 ((nI_ltI (a := ((nt + 1) - ff)) (b := 56) (by omega) (by omega)).mpr h9)
                                                            refine lv_aload_n hx hb dL_night_539 rfl (lv_at hl 15 rfl) ?_
                                                            refine lv_bipush (v := 31) hx hb dL_night_540 (by decide) ?_
                                                            refine lv_iload hx hb dL_night_542 (lv_at hl 2 rfl) ?_
                                                            refine lqSi (As := [.ref (v 0), .int (31), .int (nI k)]) (rest := []) ⟨hx, hb, hml, hown, hts⟩ (c_ask_closedIn l hl9 D T aK aV v B O2 g ln un2 nx2 pl f0 f1 f2 k N K C (nt + 1) hOI2 (by omega) _) (va_cwS 3 hts (gC gl_L_call__) rfl rfl rfl (by decide +kernel) ⟨Nat.le_of_ble_eq_true rfl, Nat.le_of_ble_eq_true rfl⟩) (Foc.pre [(q239, .inl (T 0, 5, .inl fh)), (q86, .inl (T 0, 5, .inl fo)), (q81, .inl (T 0, 24, .inl fa)), (q75, .inl (T 0, 24, .inl fw))] _ _) hC hNC hK hP hD hS hA rfl hl.1 rfl (Nat.le_of_ble_eq_true rfl) ⟨by show _ ≤ 8800; omega, by show _ ≤ 52800; omega⟩ dL_night_544 (fun H locs hP hD hS => ?_)
                                                            have hP : va_P D vwCl ((q239, .inl (T 0, 5, .inl fh)) :: (q86, .inl (T 0, 5, .inl fo)) :: (q81, .inl (T 0, 24, .inl fa)) :: (q75, .inl (T 0, 24, .inl fw)) :: WIN T v B O2 g ln un2 nx2 pl f0 f1 f2) H := hP
                                                            have hD : va_D A ((q239, .inl (T 0, 5, .inl fh)) :: (q86, .inl (T 0, 5, .inl fo)) :: (q81, .inl (T 0, 24, .inl fa)) :: (q75, .inl (T 0, 24, .inl fw)) :: WIN T v B O2 g ln un2 nx2 pl f0 f1 f2) := hD
                                                            refine endI (r := if on 8 k = 0 then -101 else on 9 k) (by rw [hO2]) ?_
                                                            refine endI (r := nI (nt + 1)) (by rw [if_neg (by rw [m8]; decide)]; exact m9) ?_
                                                            refine lv_iload hx hb dL_night_547 (lv_at hl 12 rfl) ?_
                                                            refine lv_iconst (v := 1) hx hb dL_night_549 (by decide) ?_
                                                            refine lv_iadd hx hb dL_night_550 ?_
                                                            refine endI (r := nI (nt + 1)) (nI_add _ _) ?_
                                                            refine lv_icmp_ne (tgt := 558) hx hb dL_night_551 (by decide) (fun c551 => ?_) (fun c551 => ?_)
                                                            ·
                                                              exact absurd rfl c551
                                                            ·
                                                              refine lv_iconst (v := 1) hx hb dL_night_554 (by decide) ?_
                                                              refine lv_goto (tgt := 559) hx hb dL_night_555 (by decide) ?_
                                                              refine lv_istore (lv' := [(12, .int (1)), (16, .int (-101)), (15, .int (nI ((nt + 1) - ff))), (14, .int (nI k)), (13, .ref (q239)), (11, .ref (q86)), (10, .ref (q81)), (9, .ref (q75)), (8, .int ((cntC (O 0) 1 N) + (cntC (O 0) 2 N))), (7, .int ((O 0) 0 6)), (6, .int (nI cc)), (5, .int ((nightC N K C nt (O 0)).1)), (4, .int (nI nt)), (3, .int (nI N)), (1, .long (stC (O 0) N K C)), (0, .ref (v 0))]) hx hb dL_night_559 hl (by decide) rfl (fun ls hl => ?_)
                                                              refine lv_iinc (v := nI (k + 1)) (lv' := [(14, .int (nI (k + 1))), (12, .int (1)), (16, .int (-101)), (15, .int (nI ((nt + 1) - ff))), (13, .ref (q239)), (11, .ref (q86)), (10, .ref (q81)), (9, .ref (q75)), (8, .int ((cntC (O 0) 1 N) + (cntC (O 0) 2 N))), (7, .int ((O 0) 0 6)), (6, .int (nI cc)), (5, .int ((nightC N K C nt (O 0)).1)), (4, .int (nI nt)), (3, .int (nI N)), (1, .long (stC (O 0) N K C)), (0, .ref (v 0))]) hx hb dL_night_561 hl (k := 3) rfl (nI_1 _) (by decide) rfl (fun ls hl => ?_)
                                                              refine lv_goto (tgt := 246) hx hb dL_night_564 (by decide) ?_
                                                              exact ih246 (k + 1) fh _ _ (by omega) (by omega) (by intro j hj; have h9 := hfh j hj; first | (refine Eq.trans ?_ (h_keep h9 (by rw [decide_eq_false n0, Bool.false_and])); rfl) | (refine Eq.trans ?_ (h_keep h9 (by rw [m10, decide_eq_false (p := (-1 : Int32) = nI j) (fun e => nI_nneg (by omega) (by decide) e.symm), Bool.and_false])); rfl) | exact h_take h9 n0 m10 (by omega) (by omega)) (by omega) (by omega) _ _ _ hP hD hS (lv_sub hl [0, 4, 1, 5, 6, 7, 8, 9, 10, 11, 12, 13, 14, 15] rfl)
                                                      ·
                                                        have c506 : (((nt + 1) - ff) % 7) = 0 := (nI_eq (a := (((nt + 1) - ff) % 7)) (b := 0) (by omega) (by omega)).mp c506
                                                        refine lv_bipush (v := 9) hx hb dL_night_509 (by decide) ?_
                                                        refine lv_aload hx hb dL_night_511 (lv_at hl 6 rfl) ?_
                                                        refine lv_iload hx hb dL_night_513 (lv_at hl 2 rfl) ?_
                                                        refine aldI hx hb hK hP 2 0 rfl rfl (k) rfl (by omega) (by decide) dL_night_515 ?_
                                                        refine endI (r := nI aa) (by rw [hfa9 k (by omega)]; exact e6) ?_
                                                        refine lv_iconst (v := 1) hx hb dL_night_516 (by decide) ?_
                                                        refine lv_iadd hx hb dL_night_517 ?_
                                                        refine endI (r := nI (aa + 1)) (nI_add _ _) ?_
                                                        refine va_mmin hx hb (hml.trans hl.1.symm) hown k1153 k495 k478 k496 (by decide) (Nat.le_of_ble_eq_true rfl) (by show _ ≤ 8800; omega) (by show _ ≤ 52800; omega) dL_night_518 ?_
                                                        refine endI (r := nI (incA aa)) (min9 ha9) ?_
                                                        refine lv_goto (tgt := 529) hx hb dL_night_521 (by decide) ?_
                                                        refine lv_icmp_ne (tgt := 558) hx hb dL_night_529 (by decide) (fun c529 => ?_) (fun c529 => ?_)
                                                        ·
                                                          have c529 : ¬ (angN aa (nt + 1 - ff)) = (incA aa) := fun h9 => c529 ((nI_eq (a := (angN aa (nt + 1 - ff))) (b := (incA aa)) (by omega) (by omega)).mpr h9)
                                                          exact absurd (by unfold angN; first | rw [if_pos c506] | rw [if_neg c506]) c529
                                                        ·
                                                          have c529 : (angN aa (nt + 1 - ff)) = (incA aa) := (nI_eq (a := (angN aa (nt + 1 - ff))) (b := (incA aa)) (by omega) (by omega)).mp c529
                                                          refine lv_iload hx hb dL_night_532 (lv_at hl 1 rfl) ?_
                                                          refine lv_bipush (v := 56) hx hb dL_night_534 (by decide) ?_
                                                          refine lv_icmp_lt (tgt := 554) hx hb dL_night_536 (by decide) (fun c536 => ?_) (fun c536 => ?_)
                                                          ·
                                                            have c536 : ((nt + 1) - ff) < 56 := (nI_ltI (a := ((nt + 1) - ff)) (b := 56) (by omega) (by omega)).mp c536
                                                            refine lv_iconst (v := 1) hx hb dL_night_554 (by decide) ?_
                                                            refine lv_goto (tgt := 559) hx hb dL_night_555 (by decide) ?_
                                                            refine lv_istore (lv' := [(12, .int (1)), (16, .int (-101)), (15, .int (nI ((nt + 1) - ff))), (14, .int (nI k)), (13, .ref (q239)), (11, .ref (q86)), (10, .ref (q81)), (9, .ref (q75)), (8, .int ((cntC (O 0) 1 N) + (cntC (O 0) 2 N))), (7, .int ((O 0) 0 6)), (6, .int (nI cc)), (5, .int ((nightC N K C nt (O 0)).1)), (4, .int (nI nt)), (3, .int (nI N)), (1, .long (stC (O 0) N K C)), (0, .ref (v 0))]) hx hb dL_night_559 hl (by decide) rfl (fun ls hl => ?_)
                                                            refine lv_iinc (v := nI (k + 1)) (lv' := [(14, .int (nI (k + 1))), (12, .int (1)), (16, .int (-101)), (15, .int (nI ((nt + 1) - ff))), (13, .ref (q239)), (11, .ref (q86)), (10, .ref (q81)), (9, .ref (q75)), (8, .int ((cntC (O 0) 1 N) + (cntC (O 0) 2 N))), (7, .int ((O 0) 0 6)), (6, .int (nI cc)), (5, .int ((nightC N K C nt (O 0)).1)), (4, .int (nI nt)), (3, .int (nI N)), (1, .long (stC (O 0) N K C)), (0, .ref (v 0))]) hx hb dL_night_561 hl (k := 3) rfl (nI_1 _) (by decide) rfl (fun ls hl => ?_)
                                                            refine lv_goto (tgt := 246) hx hb dL_night_564 (by decide) ?_
                                                            exact ih246 (k + 1) fh _ _ (by omega) (by omega) (by intro j hj; have h9 := hfh j hj; first | (refine Eq.trans ?_ (h_keep h9 (by rw [decide_eq_false n0, Bool.false_and])); rfl) | (refine Eq.trans ?_ (h_keep h9 (by rw [m10, decide_eq_false (p := (-1 : Int32) = nI j) (fun e => nI_nneg (by omega) (by decide) e.symm), Bool.and_false])); rfl) | exact h_take h9 n0 m10 (by omega) (by omega)) (by omega) (by omega) _ _ _ hP hD hS (lv_sub hl [0, 4, 1, 5, 6, 7, 8, 9, 10, 11, 12, 13, 14, 15] rfl)
                                                          ·
                                                            have c536 : ¬ ((nt + 1) - ff) < 56 := fun h9 => c536 ((nI_ltI (a := ((nt + 1) - ff)) (b := 56) (by omega) (by omega)).mpr h9)
                                                            refine lv_aload_n hx hb dL_night_539 rfl (lv_at hl 15 rfl) ?_
                                                            refine lv_bipush (v := 31) hx hb dL_night_540 (by decide) ?_
                                                            refine lv_iload hx hb dL_night_542 (lv_at hl 2 rfl) ?_
                                                            refine lqSi (As := [.ref (v 0), .int (31), .int (nI k)]) (rest := []) ⟨hx, hb, hml, hown, hts⟩ (c_ask_closedIn l hl9 D T aK aV v B O2 g ln un2 nx2 pl f0 f1 f2 k N K C (nt + 1) hOI2 (by omega) _) (va_cwS 3 hts (gC gl_L_call__) rfl rfl rfl (by decide +kernel) ⟨Nat.le_of_ble_eq_true rfl, Nat.le_of_ble_eq_true rfl⟩) (Foc.pre [(q239, .inl (T 0, 5, .inl fh)), (q86, .inl (T 0, 5, .inl fo)), (q81, .inl (T 0, 24, .inl fa)), (q75, .inl (T 0, 24, .inl fw))] _ _) hC hNC hK hP hD hS hA rfl hl.1 rfl (Nat.le_of_ble_eq_true rfl) ⟨by show _ ≤ 8800; omega, by show _ ≤ 52800; omega⟩ dL_night_544 (fun H locs hP hD hS => ?_)
                                                            have hP : va_P D vwCl ((q239, .inl (T 0, 5, .inl fh)) :: (q86, .inl (T 0, 5, .inl fo)) :: (q81, .inl (T 0, 24, .inl fa)) :: (q75, .inl (T 0, 24, .inl fw)) :: WIN T v B O2 g ln un2 nx2 pl f0 f1 f2) H := hP
                                                            have hD : va_D A ((q239, .inl (T 0, 5, .inl fh)) :: (q86, .inl (T 0, 5, .inl fo)) :: (q81, .inl (T 0, 24, .inl fa)) :: (q75, .inl (T 0, 24, .inl fw)) :: WIN T v B O2 g ln un2 nx2 pl f0 f1 f2) := hD
                                                            refine endI (r := if on 8 k = 0 then -101 else on 9 k) (by rw [hO2]) ?_
                                                            refine endI (r := nI (nt + 1)) (by rw [if_neg (by rw [m8]; decide)]; exact m9) ?_
                                                            refine lv_iload hx hb dL_night_547 (lv_at hl 12 rfl) ?_
                                                            refine lv_iconst (v := 1) hx hb dL_night_549 (by decide) ?_
                                                            refine lv_iadd hx hb dL_night_550 ?_
                                                            refine endI (r := nI (nt + 1)) (nI_add _ _) ?_
                                                            refine lv_icmp_ne (tgt := 558) hx hb dL_night_551 (by decide) (fun c551 => ?_) (fun c551 => ?_)
                                                            ·
                                                              exact absurd rfl c551
                                                            ·
                                                              refine lv_iconst (v := 1) hx hb dL_night_554 (by decide) ?_
                                                              refine lv_goto (tgt := 559) hx hb dL_night_555 (by decide) ?_
                                                              refine lv_istore (lv' := [(12, .int (1)), (16, .int (-101)), (15, .int (nI ((nt + 1) - ff))), (14, .int (nI k)), (13, .ref (q239)), (11, .ref (q86)), (10, .ref (q81)), (9, .ref (q75)), (8, .int ((cntC (O 0) 1 N) + (cntC (O 0) 2 N))), (7, .int ((O 0) 0 6)), (6, .int (nI cc)), (5, .int ((nightC N K C nt (O 0)).1)), (4, .int (nI nt)), (3, .int (nI N)), (1, .long (stC (O 0) N K C)), (0, .ref (v 0))]) hx hb dL_night_559 hl (by decide) rfl (fun ls hl => ?_)
                                                              refine lv_iinc (v := nI (k + 1)) (lv' := [(14, .int (nI (k + 1))), (12, .int (1)), (16, .int (-101)), (15, .int (nI ((nt + 1) - ff))), (13, .ref (q239)), (11, .ref (q86)), (10, .ref (q81)), (9, .ref (q75)), (8, .int ((cntC (O 0) 1 N) + (cntC (O 0) 2 N))), (7, .int ((O 0) 0 6)), (6, .int (nI cc)), (5, .int ((nightC N K C nt (O 0)).1)), (4, .int (nI nt)), (3, .int (nI N)), (1, .long (stC (O 0) N K C)), (0, .ref (v 0))]) hx hb dL_night_561 hl (k := 3) rfl (nI_1 _) (by decide) rfl (fun ls hl => ?_)
                                                              refine lv_goto (tgt := 246) hx hb dL_night_564 (by decide) ?_
                                                              exact ih246 (k + 1) fh _ _ (by omega) (by omega) (by intro j hj; have h9 := hfh j hj; first | (refine Eq.trans ?_ (h_keep h9 (by rw [decide_eq_false n0, Bool.false_and])); rfl) | (refine Eq.trans ?_ (h_keep h9 (by rw [m10, decide_eq_false (p := (-1 : Int32) = nI j) (fun e => nI_nneg (by omega) (by decide) e.symm), Bool.and_false])); rfl) | exact h_take h9 n0 m10 (by omega) (by omega)) (by omega) (by omega) _ _ _ hP hD hS (lv_sub hl [0, 4, 1, 5, 6, 7, 8, 9, 10, 11, 12, 13, 14, 15] rfl)
                                                ·
                                                  exact absurd c421 (by decide)
                                              ·
                                                exact absurd c350 (by decide)
                                            ·
                                              exact absurd c329 (by decide)
                                          ·
                                            exact absurd c277 (by decide)
                              exact L246 _ 0 (fun _ => 0) _ _ (Nat.lt_succ_self _) (by omega) (by intro j hj; rfl) (by omega) (by omega) _ _ _ hP hD hS (lv_sub hl [0, 1, 2, 3, 4, 5, 6, 7, 8, 9, 10, 11, 12, 13] rfl)
                      ·
                        have c181 : ¬ K ≤ kb := fun h9 => c181 ((nI_leI (a := K) (b := kb) (by omega) (by omega)).mpr h9)
                        refine lv_aload hx hb dL_night_184 (lv_at hl 2 rfl) ?_
                        refine lv_iload hx hb dL_night_186 (lv_at hl 0 rfl) ?_
                        refine lv_aload_n hx hb dL_night_188 rfl (lv_at hl 12 rfl) ?_
                        refine lv_bipush (v := 39) hx hb dL_night_189 (by decide) ?_
                        refine lv_iload hx hb dL_night_191 (lv_at hl 0 rfl) ?_
                        refine lqSi (As := [.ref (v 0), .int (39), .int (nI kb)]) (rest := [.int (nI kb), .ref (q86)]) ⟨hx, hb, hml, hown, hts⟩ (c_ask_oilOf l hl9 D T aK aV v B O1 g ln un nx pl f0 f1 f2 kb N K C nt hOI1 (by omega) _) (va_cwS 3 hts (gC gl_L_call__) rfl rfl rfl (by decide +kernel) ⟨Nat.le_of_ble_eq_true rfl, Nat.le_of_ble_eq_true rfl⟩) (Foc.pre [(q86, .inl (T 0, 5, .inl fo)), (q81, .inl (T 0, 24, .inl fa)), (q75, .inl (T 0, 24, .inl fw))] _ _) hC hNC hK hP hD hS hA rfl hl.1 rfl (Nat.le_of_ble_eq_true rfl) ⟨by show _ ≤ 8800; omega, by show _ ≤ 52800; omega⟩ dL_night_193 (fun H locs hP hD hS => ?_)
                        have hP : va_P D vwCl ((q86, .inl (T 0, 5, .inl fo)) :: (q81, .inl (T 0, 24, .inl fa)) :: (q75, .inl (T 0, 24, .inl fw)) :: WIN T v B O1 g ln un nx pl f0 f1 f2) H := hP
                        have hD : va_D A ((q86, .inl (T 0, 5, .inl fo)) :: (q81, .inl (T 0, 24, .inl fa)) :: (q75, .inl (T 0, 24, .inl fw)) :: WIN T v B O1 g ln un nx pl f0 f1 f2) := hD
                        refine endI (r := (O 0) 3 kb) (by rw [hO1]) ?_
                        refine astI hx hb hK hP hD hS 0 0 rfl rfl (kb) rfl (by omega) (by decide) dL_night_196 (fun H locs hP hD hS => ?_)
                        have hP : va_P D vwCl ((q86, .inl (T 0, 5, .inl (va_up fo kb ((O 0) 3 kb)))) :: (q81, .inl (T 0, 24, .inl fa)) :: (q75, .inl (T 0, 24, .inl fw)) :: WIN T v B O1 g ln un nx pl f0 f1 f2) H := hP
                        have hD : va_D A ((q86, .inl (T 0, 5, .inl (va_up fo kb ((O 0) 3 kb)))) :: (q81, .inl (T 0, 24, .inl fa)) :: (q75, .inl (T 0, 24, .inl fw)) :: WIN T v B O1 g ln un nx pl f0 f1 f2) := hD
                        refine lv_iinc (v := nI (kb + 1)) (lv' := [(13, .int (nI (kb + 1))), (12, .int (1)), (11, .ref (q86)), (10, .ref (q81)), (9, .ref (q75)), (8, .int ((cntC (O 0) 1 N) + (cntC (O 0) 2 N))), (7, .int ((O 0) 0 6)), (6, .int (nI cc)), (5, .int ((nightC N K C nt (O 0)).1)), (4, .int (nI nt)), (3, .int (nI N)), (1, .long (stC (O 0) N K C)), (0, .ref (v 0))]) hx hb dL_night_197 hl (k := 0) rfl (nI_1 _) (by decide) rfl (fun ls hl => ?_)
                        refine lv_goto (tgt := 175) hx hb dL_night_200 (by decide) ?_
                        exact ih175 (kb + 1) (va_up fo kb ((O 0) 3 kb)) _ _ (by omega) (by omega) (by intro i hi; by_cases e9 : i = kb; (· rw [e9]; exact if_pos rfl); (· exact (if_neg e9).trans (hfo i (by omega)))) (by omega) (by omega) _ _ _ hP hD hS (lv_sub hl [0, 1, 2, 3, 4, 5, 6, 7, 8, 9, 10, 11, 12] rfl)
                  exact L175 _ 0 (fun _ => 0) _ _ (Nat.lt_succ_self _) (by omega) (by intro i hi; omega) (by omega) (by omega) _ _ _ hP hD hS (lv_sub hl [0, 1, 2, 3, 4, 5, 6, 7, 8, 9, 10, 11, 12] rfl)
                ·
                  have c137 : ¬ N ≤ ka := fun h9 => c137 ((nI_leI (a := N) (b := ka) (by omega) (by omega)).mpr h9)
                  refine lv_aload hx hb dL_night_140 (lv_at hl 4 rfl) ?_
                  refine lv_iload hx hb dL_night_142 (lv_at hl 0 rfl) ?_
                  refine lv_aload_n hx hb dL_night_144 rfl (lv_at hl 12 rfl) ?_
                  refine lv_bipush (v := 27) hx hb dL_night_145 (by decide) ?_
                  refine lv_iload hx hb dL_night_147 (lv_at hl 0 rfl) ?_
                  refine lqSi (As := [.ref (v 0), .int (27), .int (nI ka)]) (rest := [.int (nI ka), .ref (q75)]) ⟨hx, hb, hml, hown, hts⟩ (c_ask_isWaiting l hl9 D T aK aV v B O1 g ln un nx pl f0 f1 f2 ka N K C nt hOI1 (by omega) _) (va_cwS 3 hts (gC gl_L_call__) rfl rfl rfl (by decide +kernel) ⟨Nat.le_of_ble_eq_true rfl, Nat.le_of_ble_eq_true rfl⟩) (Foc.pre [(q86, .inl (T 0, 5, .inl (fun _ => 0))), (q81, .inl (T 0, 24, .inl fa)), (q75, .inl (T 0, 24, .inl fw))] _ _) hC hNC hK hP hD hS hA rfl hl.1 rfl (Nat.le_of_ble_eq_true rfl) ⟨by show _ ≤ 8800; omega, by show _ ≤ 52800; omega⟩ dL_night_149 (fun H locs hP hD hS => ?_)
                  have hP : va_P D vwCl ((q86, .inl (T 0, 5, .inl (fun _ => 0))) :: (q81, .inl (T 0, 24, .inl fa)) :: (q75, .inl (T 0, 24, .inl fw)) :: WIN T v B O1 g ln un nx pl f0 f1 f2) H := hP
                  have hD : va_D A ((q86, .inl (T 0, 5, .inl (fun _ => 0))) :: (q81, .inl (T 0, 24, .inl fa)) :: (q75, .inl (T 0, 24, .inl fw)) :: WIN T v B O1 g ln un nx pl f0 f1 f2) := hD
                  refine endI (r := bI (decide ((O 0) 8 ka = 0))) (by rw [hO1]) ?_
                  refine astI hx hb hK hP hD hS 2 0 rfl rfl (ka) rfl (by omega) (by decide) dL_night_152 (fun H locs hP hD hS => ?_)
                  have hP : va_P D vwCl ((q86, .inl (T 0, 5, .inl (fun _ => 0))) :: (q81, .inl (T 0, 24, .inl fa)) :: (q75, .inl (T 0, 24, .inl (va_up fw ka (bI (decide ((O 0) 8 ka = 0)))))) :: WIN T v B O1 g ln un nx pl f0 f1 f2) H := hP
                  have hD : va_D A ((q86, .inl (T 0, 5, .inl (fun _ => 0))) :: (q81, .inl (T 0, 24, .inl fa)) :: (q75, .inl (T 0, 24, .inl (va_up fw ka (bI (decide ((O 0) 8 ka = 0)))))) :: WIN T v B O1 g ln un nx pl f0 f1 f2) := hD
                  refine lv_aload hx hb dL_night_153 (lv_at hl 3 rfl) ?_
                  refine lv_iload hx hb dL_night_155 (lv_at hl 0 rfl) ?_
                  refine lv_aload_n hx hb dL_night_157 rfl (lv_at hl 12 rfl) ?_
                  refine lv_bipush (v := 25) hx hb dL_night_158 (by decide) ?_
                  refine lv_iload hx hb dL_night_160 (lv_at hl 0 rfl) ?_
                  refine lqSi (As := [.ref (v 0), .int (25), .int (nI ka)]) (rest := [.int (nI ka), .ref (q81)]) ⟨hx, hb, hml, hown, hts⟩ (c_ask_angerOf l hl9 D T aK aV v B O1 g ln un nx pl f0 f1 f2 ka N K C nt hOI1 (by omega) _) (va_cwS 3 hts (gC gl_L_call__) rfl rfl rfl (by decide +kernel) ⟨Nat.le_of_ble_eq_true rfl, Nat.le_of_ble_eq_true rfl⟩) (Foc.pre [(q86, .inl (T 0, 5, .inl (fun _ => 0))), (q81, .inl (T 0, 24, .inl fa)), (q75, .inl (T 0, 24, .inl (va_up fw ka (bI (decide ((O 0) 8 ka = 0))))))] _ _) hC hNC hK hP hD hS hA rfl hl.1 rfl (Nat.le_of_ble_eq_true rfl) ⟨by show _ ≤ 8800; omega, by show _ ≤ 52800; omega⟩ dL_night_162 (fun H locs hP hD hS => ?_)
                  have hP : va_P D vwCl ((q86, .inl (T 0, 5, .inl (fun _ => 0))) :: (q81, .inl (T 0, 24, .inl fa)) :: (q75, .inl (T 0, 24, .inl (va_up fw ka (bI (decide ((O 0) 8 ka = 0)))))) :: WIN T v B O1 g ln un nx pl f0 f1 f2) H := hP
                  have hD : va_D A ((q86, .inl (T 0, 5, .inl (fun _ => 0))) :: (q81, .inl (T 0, 24, .inl fa)) :: (q75, .inl (T 0, 24, .inl (va_up fw ka (bI (decide ((O 0) 8 ka = 0)))))) :: WIN T v B O1 g ln un nx pl f0 f1 f2) := hD
                  refine endI (r := (O 0) 6 ka) (by rw [hO1]) ?_
                  refine astI hx hb hK hP hD hS 1 0 rfl rfl (ka) rfl (by omega) (by decide) dL_night_165 (fun H locs hP hD hS => ?_)
                  have hP : va_P D vwCl ((q86, .inl (T 0, 5, .inl (fun _ => 0))) :: (q81, .inl (T 0, 24, .inl (va_up fa ka ((O 0) 6 ka)))) :: (q75, .inl (T 0, 24, .inl (va_up fw ka (bI (decide ((O 0) 8 ka = 0)))))) :: WIN T v B O1 g ln un nx pl f0 f1 f2) H := hP
                  have hD : va_D A ((q86, .inl (T 0, 5, .inl (fun _ => 0))) :: (q81, .inl (T 0, 24, .inl (va_up fa ka ((O 0) 6 ka)))) :: (q75, .inl (T 0, 24, .inl (va_up fw ka (bI (decide ((O 0) 8 ka = 0)))))) :: WIN T v B O1 g ln un nx pl f0 f1 f2) := hD
                  refine lv_iinc (v := nI (ka + 1)) (lv' := [(13, .int (nI (ka + 1))), (12, .int (1)), (11, .ref (q86)), (10, .ref (q81)), (9, .ref (q75)), (8, .int ((cntC (O 0) 1 N) + (cntC (O 0) 2 N))), (7, .int ((O 0) 0 6)), (6, .int (nI cc)), (5, .int ((nightC N K C nt (O 0)).1)), (4, .int (nI nt)), (3, .int (nI N)), (1, .long (stC (O 0) N K C)), (0, .ref (v 0))]) hx hb dL_night_166 hl (k := 0) rfl (nI_1 _) (by decide) rfl (fun ls hl => ?_)
                  refine lv_goto (tgt := 134) hx hb dL_night_169 (by decide) ?_
                  exact ih134 (ka + 1) (va_up fw ka (bI (decide ((O 0) 8 ka = 0)))) (va_up fa ka ((O 0) 6 ka)) _ _ (by omega) (by omega) (by intro i hi; by_cases e9 : i = ka; (· rw [e9]; exact if_pos rfl); (· exact (if_neg e9).trans (hfw i (by omega)))) (by intro i hi; by_cases e9 : i = ka; (· rw [e9]; exact if_pos rfl); (· exact (if_neg e9).trans (hfa i (by omega)))) (by omega) (by omega) _ _ _ hP hD hS (lv_sub hl [0, 1, 2, 3, 4, 5, 6, 7, 8, 9, 10, 11, 12] rfl)
            exact L134 _ 0 (fun _ => 0) (fun _ => 0) _ _ (Nat.lt_succ_self _) (by omega) (by intro i hi; omega) (by intro i hi; omega) (by omega) (by omega) _ _ _ hP hD hS (lv_sub hl [0, 1, 2, 3, 4, 5, 6, 7, 8, 9, 10, 11, 12] rfl)
    ·
      have c7 : nt = 999 := (nI_eq (a := nt) (b := 999) (by omega) (by omega)).mp c7
      refine lv_aload_n hx hb dL_night_10 rfl (lv_at hl 0 rfl) ?_
      refine lv_bipush (v := 8) hx hb dL_night_11 (by decide) ?_
      refine lv_iconst (v := 1) hx hb dL_night_13 (by decide) ?_
      refine lqSi (As := [.ref (v 0), .int (8), .int (1)]) (rest := []) ⟨hx, hb, hml, hown, hts⟩ (c_ask_bad8n l hl9 D T aK aV v B O g ln un nx pl f0 f1 f2 N K C nt hOI (by omega) hG.un8 hG.nx8 _) (va_cwS 3 hts (gC gl_L_call__) rfl rfl rfl (by decide +kernel) ⟨Nat.le_of_ble_eq_true rfl, Nat.le_of_ble_eq_true rfl⟩) (Foc.rfl _ _) hC hNC hK hP hD hS hA rfl hl.1 rfl (Nat.le_of_ble_eq_true rfl) ⟨by show _ ≤ 8800; omega, by show _ ≤ 52800; omega⟩ dL_night_14 (fun H locs hP hD hS => ?_)
      have hP : va_P D vwCl (WIN T v B O g ln un nx pl f0 f1 f2) H := hP
      have hD : va_D A (WIN T v B O g ln un nx pl f0 f1 f2) := hD
      refine lv_bipush (v := -102) hx hb dL_night_17 (by decide) ?_
      refine lv_icmp_ne (tgt := 26) hx hb dL_night_19 (by decide) (fun c19 => ?_) (fun c19 => ?_)
      ·
        exact absurd c19 (by decide)
      ·
        refine lv_iconst (v := 1) hx hb dL_night_22 (by decide) ?_
        refine lv_goto (tgt := 27) hx hb dL_night_23 (by decide) ?_
        exact hret _ _ _ _ _ _ 1 (O, un, nx) dL_night_27 ⟨rfl, rfl, hG⟩ hP hD hS (by omega) (by omega)
  exact hgo _ _ hP hS
