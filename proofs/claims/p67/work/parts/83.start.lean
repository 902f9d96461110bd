/-! what the law finds at its start -/
section SRT
variable {args : Array Value} {s : State} {A : Nat → Prop}
theorem strO_mem {i : Nat} (hi : i < 32) : strO i ∈ strT := by
  have hl : i < strT.length := by rw [show strT.length = 32 from rfl]; exact hi
  unfold strO
  rw [List.getD_eq_getElem?_getD, List.getElem?_eq_getElem hl]
  exact List.getElem_mem hl
theorem ex_ref (h : narrow_1.before args s = true) {i : Nat} (hi : i < 32) : ∃ a, (Term.string (strO i).1 (strO i).2.1).eval args s none [] s = some (.ref a) := by
  obtain ⟨a, c, cA, kA, q1, -⟩ := Cond.exactly_spec (args := args) (first := s) (o := none) (s := s) (idx := []) (t := Term.string (strO i).1 (strO i).2.1) (cls := "java/lang/String") (ex_all h _ (strO_mem hi))
  exact ⟨a, q1⟩
theorem st_all (h : narrow_1.before args s = true) : ∀ i, i < 9 → ((Cond.eq (Term.field (Term.string (strO i).1 (strO i).2.1) "java/lang/String" "coder" "B") (Term.int 0)).before args s = true ∧ (Cond.arrayOf (Term.field (Term.string (strO i).1 (strO i).2.1) "java/lang/String" "value" "[B") FieldType.byte).before args s = true ∧ (Cond.eq (Term.length (Term.field (Term.string (strO i).1 (strO i).2.1) "java/lang/String" "value" "[B")) (Term.int (Int32.ofNat (litN i)))).before args s = true) ∧
    ∀ j, j < litN i → (Cond.eq (Term.elem (Term.field (Term.string (strO i).1 (strO i).2.1) "java/lang/String" "value" "[B") (Term.int (Int32.ofNat j))) (Term.int (litF i j))).before args s = true := by
  intro i hi
  rcases (by omega : i = 0 ∨ i = 1 ∨ i = 2 ∨ i = 3 ∨ i = 4 ∨ i = 5 ∨ i = 6 ∨ i = 7 ∨ i = 8) with rfl | rfl | rfl | rfl | rfl | rfl | rfl | rfl | rfl
  · exact ⟨st_0 h, se_0 h⟩
  · exact ⟨st_1 h, se_1 h⟩
  · exact ⟨st_2 h, se_2 h⟩
  · exact ⟨st_3 h, se_3 h⟩
  · exact ⟨st_4 h, se_4 h⟩
  · exact ⟨st_5 h, se_5 h⟩
  · exact ⟨st_6 h, se_6 h⟩
  · exact ⟨st_7 h, se_7 h⟩
  · exact ⟨st_8 h, se_8 h⟩
theorem stf_start (hts : ∀ w ∈ lw_tbl, w.before args s = true) (h : narrow_1.before args s = true) (hA : ∀ a : Nat, a < s.heap.size → ¬ A a) {i : Nat} (hi : i < 9) {a : Nat} (ha : (Term.string (strO i).1 (strO i).2.1).eval args s none [] s = some (.ref a)) : ∃ t, STF a t (litN i) (litF i) A s s.heap := by
  obtain ⟨⟨h1, h2, h3⟩, h4⟩ := st_all h i hi
  obtain ⟨t, ht, hT⟩ := va_Tof (tm := Term.field (Term.string (strO i).1 (strO i).2.1) "java/lang/String" "value" "[B") (f := fun j => .int (litF i j)) (A := A) (N := litN i) (by have := (lit_ok i hi).1; omega) h2 (va_eqt h3) (fun j hj => va_eqt (h4 j hj)) hA
  exact ⟨t, va_Oof (ex_all h _ (strO_mem (by omega))) ha hA, vk_OFof ha (va_eqt h1) hA, vk_OFof ha ht hA, hT, va_Zof (hts _ mx_1226) (hts _ mx_1227) (va_eqt (pr_compact h)) hA, va_Zqof (hts _ mx_1228) (hts _ mx_1229) (pr_siobe h) hA⟩
theorem bad_is : ∀ X ∈ exL, ∀ w ∈ badW X, w = Cond.castable X X ∨ w = Cond.declares ⟨"java/lang/RuntimeException", "<init>", "(Ljava/lang/String;)V"⟩ ∨ w = Cond.declares ⟨"java/lang/Exception", "<init>", "(Ljava/lang/String;)V"⟩ ∨ w = Cond.declares ⟨"java/lang/Throwable", "<init>", "(Ljava/lang/String;)V"⟩ := by decide +kernel
theorem cxt_start (hts : ∀ w ∈ lw_tbl, w.before args s = true) : CXT s := by
  intro X hX w hw
  rcases bad_is X hX w hw with rfl | rfl | rfl | rfl
  · refine va_Nw.of rfl (hts _ ?_)
    simp only [exL, List.mem_cons, List.not_mem_nil, or_false] at hX
    rcases hX with rfl | rfl | rfl | rfl
    · exact mx_1244
    · exact mx_1245
    · exact mx_1246
    · exact mx_1247
  · exact va_Nw.of rfl (hts _ mx_1241)
  · exact va_Nw.of rfl (hts _ mx_1242)
  · exact va_Nw.of rfl (hts _ mx_1243)
theorem cx_start (hts : ∀ w ∈ lw_tbl, w.before args s = true) (h : narrow_1.before args s = true) (hA : ∀ a : Nat, a < s.heap.size → ¬ A a) : ∃ aK aV, CX aK aV A s s.heap := by
  have h1 : ∀ i : Nat, ∃ a : Nat, i < 32 → (Term.string (strO i).1 (strO i).2.1).eval args s none [] s = some (.ref a) := by
    intro i
    by_cases hi : i < 32
    · obtain ⟨a, ha⟩ := ex_ref h hi
      exact ⟨a, fun _ => ha⟩
    · exact ⟨0, fun q => absurd q hi⟩
  obtain ⟨aK, haK⟩ := Classical.axiomOfChoice h1
  have h2 : ∀ i : Nat, ∃ t : Nat, i < 9 → STF (aK i) t (litN i) (litF i) A s s.heap := by
    intro i
    by_cases hi : i < 9
    · obtain ⟨t, ht⟩ := stf_start hts h hA hi (haK i (by omega))
      exact ⟨t, fun _ => ht⟩
    · exact ⟨0, fun q => absurd q hi⟩
  obtain ⟨aV, haV⟩ := Classical.axiomOfChoice h2
  exact ⟨aK, aV, fun i hi => haV i hi, fun i hi => vk_R.of (A := args) (hts _ (sr_all _ (strO_mem hi))) (haK i hi),
    vx_Zqof (hts _ mx_1223) (hts _ mx_1225) (pr_unas h) hA, vx_Zqof (hts _ mx_1224) (hts _ mx_1225) (pr_sent h) hA, cxt_start hts⟩
theorem nx_start (hts : ∀ w ∈ lw_tbl, w.before args s = true) : NX s := ⟨fun q hq => va_Nw.of rfl (hts _ (nest_all q hq)), va_AO.of (A := args) (hts _ mw_1190)⟩
theorem ncx_start (h : narrow_1.before args s = true) : NCX s := by
  intro E hE E' hE' hne
  simp only [exL, List.mem_cons, List.not_mem_nil, or_false] at hE hE'
  rcases hE with rfl | rfl | rfl | rfl
  · rcases hE' with rfl | rfl | rfl | rfl
    · exact absurd rfl hne
    · exact va_Nc.of (pr_32 h)
    · exact va_Nc.of (pr_33 h)
    · exact va_Nc.of (pr_34 h)
  · rcases hE' with rfl | rfl | rfl | rfl
    · exact va_Nc.of (pr_35 h)
    · exact absurd rfl hne
    · exact va_Nc.of (pr_36 h)
    · exact va_Nc.of (pr_37 h)
  · rcases hE' with rfl | rfl | rfl | rfl
    · exact va_Nc.of (pr_38 h)
    · exact va_Nc.of (pr_39 h)
    · exact absurd rfl hne
    · exact va_Nc.of (pr_40 h)
  · rcases hE' with rfl | rfl | rfl | rfl
    · exact va_Nc.of (pr_41 h)
    · exact va_Nc.of (pr_42 h)
    · exact va_Nc.of (pr_43 h)
    · exact absurd rfl hne
theorem arr_start {ty : FieldType} (h : (Cond.arrayClass ty).before args s = true) (hr : ∀ cA, va_RA s cA ty = (s.vm.findClass ("[" ++ ty.toString) = some cA)) : ∃ cA, ArrOfT s cA ty ∧ va_RA s cA ty := by
  obtain ⟨cA, kA, comp, h1, h2, h3⟩ := Cond.arrayClass_spec (args := args) (first := s) (o := none) (s := s) (idx := []) h
  exact ⟨cA, fun n z => ⟨fun k h => by (cases h), kA, h2, comp, h3⟩, by rw [hr]; exact h1⟩
theorem sel_start (hts : ∀ w ∈ lw_tbl, w.before args s = true) : ∀ w ∈ gJ, w.before args s = true := by
  have hz := hts _ mx_1260
  intro w hw
  rcases List.mem_append.mp hw with hw | hw
  · unfold jsel at hw
    simp only [List.mem_cons, List.not_mem_nil, or_false] at hw
    rcases hw with rfl | rfl | rfl | rfl
    · exact sel_priv ⟨by decide +kernel, by decide +kernel⟩ (hts _ mx_1261) (hts _ mw_501) hz rfl
    · exact sel_priv ⟨by decide +kernel, by decide +kernel⟩ (hts _ mx_1262) (hts _ mw_470) hz rfl
    · exact sel_priv ⟨by decide +kernel, by decide +kernel⟩ (hts _ mx_1263) (hts _ mw_564) hz rfl
    · exact sel_priv ⟨by decide +kernel, by decide +kernel⟩ (hts _ mx_1264) (hts _ mw_553) hz rfl
  · exact hts w (gT_in hw)
theorem k_start (hts : ∀ w ∈ lw_tbl, w.before args s = true) : ∃ (D : va_G) (T : Nat → ClassId), va_K D vwCl (tyL T) s := by
  have htsJ := sel_start hts
  have hk : ∀ c : Nat, ∃ q : ClassId × (Nat → Nat), ∀ z : vw_C, vwCl[c]? = some z → u_Kn s z.1 z.2.1 z.2.2 q.1 q.2 := by
    intro c
    have key : ∀ (C : String) (T : u_T) (N : Nat), vwCl[c]? = some (C, T, N) → (∃ (cC : ClassId) (iS : Nat → Nat), u_Kn s C T N cC iS) → ∃ q : ClassId × (Nat → Nat), ∀ z : vw_C, vwCl[c]? = some z → u_Kn s z.1 z.2.1 z.2.2 q.1 q.2 := by
      rintro C T N e ⟨cC, iS, hh⟩
      refine ⟨(cC, iS), fun z hz => ?_⟩
      cases (hz.symm.trans e)
      exact hh
    by_cases hc : c < 12
    · rcases (by omega : c = 0 ∨ c = 1 ∨ c = 2 ∨ c = 3 ∨ c = 4 ∨ c = 5 ∨ c = 6 ∨ c = 7 ∨ c = 8 ∨ c = 9 ∨ c = 10 ∨ c = 11) with rfl | rfl | rfl | rfl | rfl | rfl | rfl | rfl | rfl | rfl | rfl | rfl
      · exact key _ _ _ rfl (u_known htsJ (fun w hw => ((gJ_up gw_wsX00) w hw).1) (hts _ mw_103))
      · exact key _ _ _ rfl (u_known htsJ (fun w hw => ((gJ_up gw_wsX10) w hw).1) (hts _ mw_134))
      · exact key _ _ _ rfl (u_known htsJ (fun w hw => ((gJ_up gw_wsX20) w hw).1) (hts _ mw_112))
      · exact key _ _ _ rfl (u_known htsJ (fun w hw => ((gJ_up gw_wsX30) w hw).1) (hts _ mw_108))
      · exact key _ _ _ rfl (u_known htsJ (fun w hw => ((gJ_up gw_wsX40) w hw).1) (hts _ mw_95))
      · exact key _ _ _ rfl (u_known htsJ (fun w hw => ((gJ_up gw_wsX50) w hw).1) (hts _ mw_160))
      · exact key _ _ _ rfl (u_known htsJ (fun w hw => ((gJ_up gw_wsX60) w hw).1) (hts _ mw_120))
      · exact key _ _ _ rfl (u_known htsJ (fun w hw => ((gJ_up gw_wsX70) w hw).1) (hts _ mw_99))
      · exact key _ _ _ rfl (u_known htsJ (fun w hw => ((gJ_up gw_wsX80) w hw).1) (hts _ mw_164))
      · exact key _ _ _ rfl (u_known htsJ (fun w hw => ((gJ_up gw_wsX90) w hw).1) (hts _ mw_1164))
      · exact key _ _ _ rfl (u_known htsJ (fun w hw => ((g_RJ0) w hw).1) (hts _ mw_643))
      · exact key _ _ _ rfl (u_known htsJ (fun w hw => ((g_RJ4) w hw).1) (hts _ mw_605))
    · exact ⟨(0, fun _ => 0), fun z hz => absurd (List.getElem?_eq_some_iff.mp hz).1 (by rw [show vwCl.length = 12 from rfl]; exact hc)⟩
  obtain ⟨f, hf⟩ := Classical.axiomOfChoice hk
  obtain ⟨t0, a0, b0⟩ := arr_start (ty := .int) (hts _ mw_126) (fun _ => rfl)
  obtain ⟨t1, a1, b1⟩ := arr_start (ty := .boolean) (hts _ mw_176) (fun _ => rfl)
  obtain ⟨t3, a3, b3⟩ := arr_start (ty := .byte) (hts _ mw_493) (fun _ => rfl)
  obtain ⟨comp, t2, k2, c1, -, c3, c4, c5⟩ := Cond.arrayOver_spec (args := args) (first := s) (o := none) (s := s) (idx := []) (n := "MoonComplaintWindow$Office") (hts _ mw_1190)
  obtain ⟨comp4, t4, k4, d1, -, d3, d4, d5⟩ := Cond.arrayOver_spec (args := args) (first := s) (o := none) (s := s) (idx := []) (n := "java/lang/String") (hts _ mw_1189)
  refine ⟨(fun c => (f c).1, fun c => (f c).2), fun k => if k = 0 then t0 else if k = 1 then t1 else if k = 2 then t2 else if k = 3 then t3 else t4, fun c z hz => hf c z hz, fun k q hq => ?_⟩
  have hk5 : k < 5 := (List.getElem?_eq_some_iff.mp hq).1
  rcases (by omega : k = 0 ∨ k = 1 ∨ k = 2 ∨ k = 3 ∨ k = 4) with rfl | rfl | rfl | rfl | rfl
  · cases hq; exact ⟨a0, b0⟩
  · cases hq; exact ⟨a1, b1⟩
  · cases hq; exact ⟨fun n z => ⟨fun k h => by (cases h), k2, c3, comp, c4⟩, k2, comp, c3, c4, c1, c5⟩
  · cases hq; exact ⟨a3, b3⟩
  · cases hq; exact ⟨fun n z => ⟨fun k h => by (cases h), k4, d3, comp4, d4⟩, k4, comp4, d3, d4, d1, d5⟩
theorem jst_all (h : narrow_1.before args s = true) : ∀ i, i < 8 → ((Cond.exactly (Term.string RL (jlO i).1) "java/lang/String").before args s = true ∧ (Cond.eq (Term.field (Term.string RL (jlO i).1) "java/lang/String" "coder" "B") (Term.int 0)).before args s = true ∧ (Cond.arrayOf (Term.field (Term.string RL (jlO i).1) "java/lang/String" "value" "[B") FieldType.byte).before args s = true ∧ (Cond.eq (Term.length (Term.field (Term.string RL (jlO i).1) "java/lang/String" "value" "[B")) (Term.int (Int32.ofNat (jL i).length))).before args s = true) ∧
    ∀ j, j < (jL i).length → (Cond.eq (Term.elem (Term.field (Term.string RL (jlO i).1) "java/lang/String" "value" "[B") (Term.int (Int32.ofNat j))) (Term.int (jF (jL i) j))).before args s = true := by
  intro i hi
  rcases (by omega : i = 0 ∨ i = 1 ∨ i = 2 ∨ i = 3 ∨ i = 4 ∨ i = 5 ∨ i = 6 ∨ i = 7) with rfl | rfl | rfl | rfl | rfl | rfl | rfl | rfl
  · exact ⟨jst_0 h, jse_0 h⟩
  · exact ⟨jst_1 h, jse_1 h⟩
  · exact ⟨jst_2 h, jse_2 h⟩
  · exact ⟨jst_3 h, jse_3 h⟩
  · exact ⟨jst_4 h, jse_4 h⟩
  · exact ⟨jst_5 h, jse_5 h⟩
  · exact ⟨jst_6 h, jse_6 h⟩
  · exact ⟨jst_7 h, jse_7 h⟩
theorem jx_start (hts : ∀ w ∈ lw_tbl, w.before args s = true) (h : narrow_1.before args s = true) (hA : ∀ a : Nat, a < s.heap.size → ¬ A a) : ∃ x, JX x A s s.heap := by
  have h1 : ∀ i : Nat, ∃ a : Nat × Nat, i < 8 → STF a.1 a.2 (jL i).length (jF (jL i)) A s s.heap ∧ (Term.string RL (jlO i).1).eval args s none [] s = some (.ref a.1) := by
    intro i
    by_cases hi : i < 8
    · obtain ⟨⟨g0, g1, g2, g3⟩, g4⟩ := jst_all h i hi
      obtain ⟨a, c, cA, kA, q1, -⟩ := Cond.exactly_spec (args := args) (first := s) (o := none) (s := s) (idx := []) (t := Term.string RL (jlO i).1) (cls := "java/lang/String") g0
      obtain ⟨t, ht, hT⟩ := va_Tof (tm := Term.field (Term.string RL (jlO i).1) "java/lang/String" "value" "[B") (f := fun j => .int (jF (jL i) j)) (A := A) (N := (jL i).length) (by have := (jL_ok i hi).1; omega) g2 (va_eqt g3) (fun j hj => va_eqt (g4 j hj)) hA
      exact ⟨(a, t), fun _ => ⟨⟨va_Oof g0 q1 hA, vk_OFof q1 (va_eqt g1) hA, vk_OFof q1 ht hA, hT, va_Zof (hts _ mx_1226) (hts _ mx_1227) (va_eqt (pr_compact h)) hA, va_Zqof (hts _ mx_1228) (hts _ mx_1229) (pr_siobe h) hA⟩, q1⟩⟩
    · exact ⟨(0, 0), fun q => absurd q hi⟩
  obtain ⟨a, ha⟩ := Classical.axiomOfChoice h1
  obtain ⟨u1, hu1, hT1⟩ := va_Tof (tm := Term.static "java/lang/Integer" "DigitOnes" "[B") (f := fun j => .int (nI (48 + j % 10))) (A := A) (N := 100) (by decide) (pr_dOne_a h) (va_eqt (pr_dOne_l h)) (fun j hj => va_eqt (dse_One h j hj)) hA
  obtain ⟨u2, hu2, hT2⟩ := va_Tof (tm := Term.static "java/lang/Integer" "DigitTens" "[B") (f := fun j => .int (nI (48 + j / 10))) (A := A) (N := 100) (by decide) (pr_dTen_a h) (va_eqt (pr_dTen_l h)) (fun j hj => va_eqt (dse_Ten h j hj)) hA
  exact ⟨(fun i => (a i).1, fun i => (a i).2, u1, u2), fun i hi => (ha i hi).1, fun i hi => vk_R.of (A := args) (hts _ (jr_all i hi)) (ha i hi).2, ⟨va_Zof (hts _ mx_1256) (hts _ mx_1258) hu1 hA, hT1⟩, ⟨va_Zof (hts _ mx_1257) (hts _ mx_1258) hu2 hA, hT2⟩, va_Nw.of rfl (hts _ mx_1259), va_AO.of (A := args) (hts _ mw_1189)⟩
end SRT
