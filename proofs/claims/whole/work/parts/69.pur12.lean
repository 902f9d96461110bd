section ST
variable {O : Nat → Nat → Nat → Int32} {g : CSt} {ln un nx pl : Nat} {f0 f1 f2 : Nat → Int32} {y : Nat → Nat → Int32} {N K C nt : Nat}

theorem st_addClerk (h : GI O g ln un nx pl f0 f1 f2 y) (hn : NV (O 0) (y 1) N K C nt) (h9 : nt ≤ 999) (z : Int32) (z1 : Int32) : STEP (orE (chkB (rg z 1 9) "java/lang/IllegalArgumentException") (orE (chkB (rg z1 0 99) "java/lang/IllegalArgumentException") (chkB (decide (K < 5)) "java/lang/IllegalStateException"))) "java/lang/IllegalArgumentException" ((nI K).toInt64) (if rg z 1 9 && rg z1 0 99 then (if K = 5 then 0 else nI K) else 0).toInt64 ((if rg z 1 9 && rg z1 0 99 then (if K = 5 then yS y 3 2 else va_up (rKeep (yS y 3 0)) 1 (rAddsClerk (y 1) K z z1)) else yS y 3 1) 0 3) (GI (va_up (va_up O (3 + nx) (O 0)) 0 (staffAdd (O 0) K z z1)) g ln (if un = 8 then 8 else un + 1) ((nx + 1) % 8) pl f0 f1 f2 (if rg z 1 9 && rg z1 0 99 then (if K = 5 then yS y 3 2 else va_up (rKeep (yS y 3 0)) 1 (rAddsClerk (y 1) K z z1)) else yS y 3 1)) (GI O g ln un nx pl f0 f1 f2 (if rg z 1 9 && rg z1 0 99 then (if K = 5 then yS y 3 2 else va_up (rKeep (yS y 3 0)) 1 (rAddsClerk (y 1) K z z1)) else yS y 3 1)) := by
  cases c : rg z 1 9
  · exact STEP.bad rfl h
  · cases c1 : rg z1 0 99
    · exact STEP.bad rfl h
    · obtain ⟨S, hS, e⟩ := rg_1 (n := 9) (by decide) c
      obtain ⟨w, hw, e1, -⟩ := rg_nat (n := 99) (by decide) c1
      have hK := hn.K5
      by_cases c2 : K = 5
      · rw [if_pos c2, if_pos c2, decide_eq_false (by omega)]
        exact STEP.bad rfl h
      · rw [if_neg c2, if_neg c2, decide_eq_true (by omega), e, e1]
        exact STEP.ok rfl rfl (h.push ⟨N, K + 1, C, nt, hn.clerk (by omega) hS.2 hw, h9⟩)
theorem st_angerOf (h : GI O g ln un nx pl f0 f1 f2 y) (hn : NV (O 0) (y 1) N K C nt) (z : Int32) : STEP (chkB (inN z N) "java/lang/IndexOutOfBoundsException") "java/lang/IndexOutOfBoundsException" (((O 0) 6 z.toNatClampNeg).toInt64) (if inN z N then y 1 (34 + 7 * z.toNatClampNeg + 2) else 0).toInt64 ((yS y 3 (if inN z N then 0 else 1)) 0 3) (GI O g ln un nx pl f0 f1 f2 (yS y 3 (if inN z N then 0 else 1))) (GI O g ln un nx pl f0 f1 f2 (yS y 3 (if inN z N then 0 else 1))) := by
  cases c : inN z N
  · exact STEP.bad rfl h
  · obtain ⟨j, hj, -, e⟩ := inN_t (by have := hn.N24; omega) c
    refine STEP.ok rfl ?_ h
    show ((O 0) 6 z.toNatClampNeg).toInt64 = (y 1 (34 + 7 * z.toNatClampNeg + 2)).toInt64
    rw [e]
    exact congrArg Int32.toInt64 (hn.ro.p j hj 2 (by decide))
theorem st_angriest (h : GI O g ln un nx pl f0 f1 f2 y) (hn : NV (O 0) (y 1) N K C nt) : STEP (chkB ((mostC (O 0) 15 N).isSome) "java/util/NoSuchElementException") "java/util/NoSuchElementException" (((mostC (O 0) 15 N).elim 0 nI).toInt64) ((angR0 (y 1) N).elim 0 nI).toInt64 ((yS y 3 (if (angR0 (y 1) N).isSome then 0 else 1)) 0 3) (GI O g ln un nx pl f0 f1 f2 (yS y 3 (if (angR0 (y 1) N).isSome then 0 else 1))) (GI O g ln un nx pl f0 f1 f2 (yS y 3 (if (angR0 (y 1) N).isSome then 0 else 1))) := by
  rw [most15 hn.ro hn.so (fun k hk => hn.vi.ang0 hk)]
  cases c2 : angR0 (y 1) N with
  | none => exact STEP.bad rfl h
  | some j => exact STEP.ok rfl rfl h
theorem st_answeredBy (h : GI O g ln un nx pl f0 f1 f2 y) (hn : NV (O 0) (y 1) N K C nt) (z : Int32) : STEP (chkB (inN z K) "java/lang/IndexOutOfBoundsException") "java/lang/IndexOutOfBoundsException" ((cntI (fun k => decide ((O 0) 8 k = 1) && decide ((O 0) 10 k = z)) N 0 0).toInt64) (if inN z K then y 1 (19 + 3 * z.toNatClampNeg + 2) else 0).toInt64 ((yS y 3 (if inN z K then 0 else 1)) 0 3) (GI O g ln un nx pl f0 f1 f2 (yS y 3 (if inN z K then 0 else 1))) (GI O g ln un nx pl f0 f1 f2 (yS y 3 (if inN z K then 0 else 1))) := by
  cases c : inN z K
  · exact STEP.bad rfl h
  · obtain ⟨j, hj, e1, e⟩ := inN_t (by have := hn.K5; omega) c
    refine STEP.ok rfl ?_ h
    show _ = (y 1 (19 + 3 * z.toNatClampNeg + 2)).toInt64
    rw [e, hn.vi.ans j hj, e1]
    refine congrArg Int32.toInt64 (cntI_congr (fun k _ hk => ?_))
    rw [show (O 0) 8 k = y 1 (34 + 7 * k + 4) from hn.ro.p k (by omega) 4 (by decide), show (O 0) 10 k = y 1 (34 + 7 * k + 6) from hn.ro.p k (by omega) 6 (by decide)]
theorem st_append (h : GI O g ln un nx pl f0 f1 f2 y) (a1 : Int32) (a2 : Int32) (a3 : Int32) (a4 : Int32) (a5 : Int32) : STEP (chkB (decide (ln ≤ 580)) "java/lang/IllegalStateException") "java/lang/IllegalStateException" ((nI (ln + 20)).toInt64) (if ln + 20 ≤ 600 then nI (ln + 20) else 0).toInt64 ((if ln + 20 ≤ 600 then yS (yS (va_up y 7 (appR a1 a2 a3 a4 a5 ln (y 7))) 3 0) 1 (nI (ln + 20)) else yS y 3 1) 0 3) (GI O g (ln + 20) un nx pl (appC a1 a2 a3 a4 a5 ln f0) f1 f2 (if ln + 20 ≤ 600 then yS (yS (va_up y 7 (appR a1 a2 a3 a4 a5 ln (y 7))) 3 0) 1 (nI (ln + 20)) else yS y 3 1)) (GI O g ln un nx pl f0 f1 f2 (if ln + 20 ≤ 600 then yS (yS (va_up y 7 (appR a1 a2 a3 a4 a5 ln (y 7))) 3 0) 1 (nI (ln + 20)) else yS y 3 1)) := by
  obtain ⟨g1, g2, g3⟩ := h.2.2.2.1
  by_cases c : ln + 20 ≤ 600
  · rw [decide_eq_true (show ln ≤ 580 by omega), if_pos c, if_pos c]
    exact STEP.ok rfl rfl ⟨h.1, h.2.1, h.2.2.1, ⟨c, rfl, app_R g3⟩, h.2.2.2.2.1, h.2.2.2.2.2⟩
  · rw [decide_eq_false (show ¬ ln ≤ 580 by omega), if_neg c, if_neg c]
    exact STEP.bad rfl h
theorem st_clerkOf (h : GI O g ln un nx pl f0 f1 f2 y) (hn : NV (O 0) (y 1) N K C nt) (z : Int32) : STEP (orE (chkB (inN z N) "java/lang/IndexOutOfBoundsException") (chkB (!decide ((O 0) 10 z.toNatClampNeg = -1)) "java/util/NoSuchElementException")) "java/lang/IndexOutOfBoundsException" (((O 0) 10 z.toNatClampNeg).toInt64) (if inN z N then (if y 1 (34 + 7 * z.toNatClampNeg + 6) < 0 then 0 else y 1 (34 + 7 * z.toNatClampNeg + 6)) else 0).toInt64 ((yS y 3 (if inN z N then (if y 1 (34 + 7 * z.toNatClampNeg + 6) < 0 then 2 else 0) else 1)) 0 3) (GI O g ln un nx pl f0 f1 f2 (yS y 3 (if inN z N then (if y 1 (34 + 7 * z.toNatClampNeg + 6) < 0 then 2 else 0) else 1))) (GI O g ln un nx pl f0 f1 f2 (yS y 3 (if inN z N then (if y 1 (34 + 7 * z.toNatClampNeg + 6) < 0 then 2 else 0) else 1))) := by
  cases c : inN z N
  · exact STEP.bad rfl h
  · obtain ⟨j, hj, -, e⟩ := inN_t (by have := hn.N24; omega) c
    rw [e, show (O 0) 10 j = y 1 (34 + 7 * j + 6) from hn.ro.p j hj 6 (by decide)]
    rcases hn.vi.by_ j hj with g1 | ⟨i, hi, g1⟩
    · rw [g1]
      exact STEP.bad rfl h
    · have hK := hn.K5
      rw [g1, decide_eq_false (fun q => nI_nm1 (by omega) q.symm), if_neg (nI_pos (by omega)), if_neg (nI_pos (by omega))]
      exact STEP.ok rfl rfl h
theorem st_closedIn (h : GI O g ln un nx pl f0 f1 f2 y) (hn : NV (O 0) (y 1) N K C nt) (z : Int32) : STEP (orE (chkB (inN z N) "java/lang/IndexOutOfBoundsException") (chkB (!decide ((O 0) 8 z.toNatClampNeg = 0)) "java/util/NoSuchElementException")) "java/lang/IndexOutOfBoundsException" (((O 0) 9 z.toNatClampNeg).toInt64) (if inN z N then (if y 1 (34 + 7 * z.toNatClampNeg + 4) = 0 then 0 else y 1 (34 + 7 * z.toNatClampNeg + 5)) else 0).toInt64 ((yS y 3 (if inN z N then (if y 1 (34 + 7 * z.toNatClampNeg + 4) = 0 then 2 else 0) else 1)) 0 3) (GI O g ln un nx pl f0 f1 f2 (yS y 3 (if inN z N then (if y 1 (34 + 7 * z.toNatClampNeg + 4) = 0 then 2 else 0) else 1))) (GI O g ln un nx pl f0 f1 f2 (yS y 3 (if inN z N then (if y 1 (34 + 7 * z.toNatClampNeg + 4) = 0 then 2 else 0) else 1))) := by
  cases c : inN z N
  · exact STEP.bad rfl h
  · obtain ⟨j, hj, -, e⟩ := inN_t (by have := hn.N24; omega) c
    rw [e, show (O 0) 8 j = y 1 (34 + 7 * j + 4) from hn.ro.p j hj 4 (by decide)]
    by_cases c2 : y 1 (34 + 7 * j + 4) = 0
    · rw [decide_eq_true c2, if_pos c2, if_pos c2]
      exact STEP.bad rfl h
    · rw [decide_eq_false c2, if_neg c2, if_neg c2]
      exact STEP.ok rfl (congrArg Int32.toInt64 (hn.ro.p j hj 5 (by decide))) h
theorem st_cloudOf (h : GI O g ln un nx pl f0 f1 f2 y) (hn : NV (O 0) (y 1) N K C nt) (z : Int32) : STEP (chkB (rg z 0 2000) "java/lang/IllegalArgumentException") "java/lang/IllegalArgumentException" (((O 0) 1 (z.toNatClampNeg % C)).toInt64) (if rg z 0 2000 then y 1 (9 + z.toNatClampNeg % C) else 0).toInt64 ((yS y 3 (if rg z 0 2000 then 0 else 1)) 0 3) (GI O g ln un nx pl f0 f1 f2 (yS y 3 (if rg z 0 2000 then 0 else 1))) (GI O g ln un nx pl f0 f1 f2 (yS y 3 (if rg z 0 2000 then 0 else 1))) := by
  cases c : rg z 0 2000
  · exact STEP.bad rfl h
  · exact STEP.ok rfl (congrArg Int32.toInt64 (hn.ro.c _ (Nat.mod_lt _ hn.C0))) h
theorem st_complaintsOf (h : GI O g ln un nx pl f0 f1 f2 y) (hn : NV (O 0) (y 1) N K C nt) (z : Int32) : STEP (chkB (rg z 0 99) "java/lang/IllegalArgumentException") "java/lang/IllegalArgumentException" ((cntI (fun k => decide ((O 0) 4 k = z)) N 0 0).toInt64) (if rg z 0 99 then persR (y 1) z N else 0).toInt64 ((yS y 3 (if rg z 0 99 then 0 else 1)) 0 3) (GI O g ln un nx pl f0 f1 f2 (yS y 3 (if rg z 0 99 then 0 else 1))) (GI O g ln un nx pl f0 f1 f2 (yS y 3 (if rg z 0 99 then 0 else 1))) := by
  cases c : rg z 0 99
  · exact STEP.bad rfl h
  · refine STEP.ok rfl (congrArg Int32.toInt64 ?_) h
    exact cntI_congr (fun k _ hk => by rw [show (O 0) 4 k = y 1 (34 + 7 * k) from hn.ro.p k (by omega) 0 (by decide)])
theorem st_darkestClerk (h : GI O g ln un nx pl f0 f1 f2 y) (hn : NV (O 0) (y 1) N K C nt) : STEP (chkB (((minF (fun _ => true) ((O 0) 3) K 0 (none, 100)).1).isSome) "java/util/NoSuchElementException") "java/util/NoSuchElementException" ((((minF (fun _ => true) ((O 0) 3) K 0 (none, 100)).1).elim 0 nI).toInt64) (if K = 0 then 0 else nI (darkR (y 1) K)).toInt64 ((yS y 3 (if K = 0 then 1 else 0)) 0 3) (GI O g ln un nx pl f0 f1 f2 (yS y 3 (if K = 0 then 1 else 0))) (GI O g ln un nx pl f0 f1 f2 (yS y 3 (if K = 0 then 1 else 0))) := by
  rw [dark_R hn.ro hn.K5 hn.vi.oil]
  by_cases c : K = 0
  · rw [if_pos c, if_pos c, if_pos c]
    exact STEP.bad rfl h
  · rw [if_neg c, if_neg c, if_neg c]
    exact STEP.ok rfl rfl h
theorem st_endNights (h : GI O g ln un nx pl f0 f1 f2 y) (hn : NV (O 0) (y 1) N K C nt) (h9 : nt ≤ 999) (z : Int32) : STEP (orE (chkB (rg z 1 60) "java/lang/IllegalArgumentException") (chkB (decide (nt + z.toNatClampNeg ≤ 999)) "java/lang/IllegalStateException")) "java/lang/IllegalArgumentException" (((iter (endsC N K C nt) z.toNatClampNeg 0 (0, O 0)).1).toInt64) (if rg z 1 60 then (if nt + z.toNatClampNeg ≤ 999 then (iter (endsI N K C nt) z.toNatClampNeg 0 (0, y 1)).1 else 0) else 0).toInt64 ((if rg z 1 60 then (if nt + z.toNatClampNeg ≤ 999 then va_up (rKeep (yS y 3 0)) 1 (iter (endsI N K C nt) z.toNatClampNeg 0 (0, y 1)).2 else yS y 3 2) else yS y 3 1) 0 3) (GI (va_up (va_up O (3 + nx) (O 0)) 0 ((iter (endsC N K C nt) z.toNatClampNeg 0 (0, O 0)).2)) g ln (if un = 8 then 8 else un + 1) ((nx + 1) % 8) pl f0 f1 f2 (if rg z 1 60 then (if nt + z.toNatClampNeg ≤ 999 then va_up (rKeep (yS y 3 0)) 1 (iter (endsI N K C nt) z.toNatClampNeg 0 (0, y 1)).2 else yS y 3 2) else yS y 3 1)) (GI O g ln un nx pl f0 f1 f2 (if rg z 1 60 then (if nt + z.toNatClampNeg ≤ 999 then va_up (rKeep (yS y 3 0)) 1 (iter (endsI N K C nt) z.toNatClampNeg 0 (0, y 1)).2 else yS y 3 2) else yS y 3 1)) := by
  cases c : rg z 1 60
  · exact STEP.bad rfl h
  · by_cases c2 : nt + z.toNatClampNeg ≤ 999
    · rw [decide_eq_true c2, if_pos c2, if_pos c2]
      obtain ⟨g1, g2⟩ := hn.ends (n := z.toNatClampNeg) (by omega)
      exact STEP.ok rfl (congrArg Int32.toInt64 g2) (h.push ⟨N, K, C, _, g1, c2⟩)
    · rw [decide_eq_false c2, if_neg c2, if_neg c2]
      exact STEP.bad rfl h
theorem st_errorOffset (h : GI O g ln un nx pl f0 f1 f2 y) : STEP (chkB (g.2.2.2.1) "java/util/NoSuchElementException") "java/util/NoSuchElementException" ((g.2.2.2.2).toInt64) (if y 0 2 < 0 then 0 else y 0 2).toInt64 ((yS y 3 (if y 0 2 < 0 then 1 else 0)) 0 3) (GI O g ln un nx pl f0 f1 f2 (yS y 3 (if y 0 2 < 0 then 1 else 0))) (GI O g ln un nx pl f0 f1 f2 (yS y 3 (if y 0 2 < 0 then 1 else 0))) := by
  rcases h.2.2.2.2.1 with ⟨e1, e2, k, hk, e3⟩ | ⟨e1, e2⟩
  · have hp : ¬ y 0 2 < 0 := by rw [e3]; exact nI_pos hk
    rw [e1, e2, if_neg hp, if_neg hp]
    exact STEP.ok rfl rfl h
  · rw [e1, e2]
    exact STEP.bad rfl h
theorem st_fileComplaint (h : GI O g ln un nx pl f0 f1 f2 y) (hn : NV (O 0) (y 1) N K C nt) (h9 : nt ≤ 999) (z : Int32) (z1 : Int32) (z2 : Int32) : STEP (orE (chkB (rg z 0 99) "java/lang/IllegalArgumentException") (orE (chkB (rg z1 0 3) "java/lang/IllegalArgumentException") (orE (chkB (rg z2 1 9) "java/lang/IllegalArgumentException") (orE (chkB (decide (N < 24)) "java/lang/IllegalStateException") (chkB ((findC (O 0) z z1 N).isNone) "java/lang/IllegalStateException"))))) "java/lang/IllegalArgumentException" ((nI N).toInt64) (if fileCode (y 1) N z z1 z2 = 0 then nI N else 0).toInt64 ((if fileCode (y 1) N z z1 z2 = 0 then va_up (rKeep (yS y 3 0)) 1 (rFiles (y 1) N z z1 z2) else yS y 3 (fileCode (y 1) N z z1 z2)) 0 3) (GI (va_up (va_up O (3 + nx) (O 0)) 0 (pileAdd (O 0) N z z1 z2 ((O 0) 0 0))) g ln (if un = 8 then 8 else un + 1) ((nx + 1) % 8) pl f0 f1 f2 (if fileCode (y 1) N z z1 z2 = 0 then va_up (rKeep (yS y 3 0)) 1 (rFiles (y 1) N z z1 z2) else yS y 3 (fileCode (y 1) N z z1 z2))) (GI O g ln un nx pl f0 f1 f2 (if fileCode (y 1) N z z1 z2 = 0 then va_up (rKeep (yS y 3 0)) 1 (rFiles (y 1) N z z1 z2) else yS y 3 (fileCode (y 1) N z z1 z2))) := by
  rw [findC_R hn.ro]
  unfold fileCode
  cases c : rg z 0 99
  · exact STEP.bad rfl h
  · cases c1 : rg z1 0 3
    · exact STEP.bad rfl h
    · cases c2 : rg z2 1 9
      · exact STEP.bad rfl h
      · have hN := hn.N24
        rw [Bool.true_and, Bool.true_and, if_pos rfl]
        by_cases c3 : N = 24
        · rw [if_pos c3, decide_eq_false (by omega)]
          exact STEP.bad rfl h
        · rw [if_neg c3, decide_eq_true (by omega)]
          cases c4 : findR (y 1) z z1 N with
          | some j => exact STEP.bad rfl h
          | none =>
            obtain ⟨q, hq, e, -⟩ := rg_sort c1
            obtain ⟨a, ha, e2⟩ := rg_1 (n := 9) (by decide) c2
            rw [e, e2]
            exact STEP.ok rfl rfl (h.push ⟨N + 1, K, C, nt, hn.file (by omega) hq ha.1 ha.2, h9⟩)
theorem st_filedIn (h : GI O g ln un nx pl f0 f1 f2 y) (hn : NV (O 0) (y 1) N K C nt) (z : Int32) : STEP (chkB (inN z N) "java/lang/IndexOutOfBoundsException") "java/lang/IndexOutOfBoundsException" (((O 0) 7 z.toNatClampNeg).toInt64) (if inN z N then y 1 (34 + 7 * z.toNatClampNeg + 3) else 0).toInt64 ((yS y 3 (if inN z N then 0 else 1)) 0 3) (GI O g ln un nx pl f0 f1 f2 (yS y 3 (if inN z N then 0 else 1))) (GI O g ln un nx pl f0 f1 f2 (yS y 3 (if inN z N then 0 else 1))) := by
  cases c : inN z N
  · exact STEP.bad rfl h
  · obtain ⟨j, hj, -, e⟩ := inN_t (by have := hn.N24; omega) c
    refine STEP.ok rfl ?_ h
    show ((O 0) 7 z.toNatClampNeg).toInt64 = (y 1 (34 + 7 * z.toNatClampNeg + 3)).toInt64
    rw [e]
    exact congrArg Int32.toInt64 (hn.ro.p j hj 3 (by decide))
theorem st_giveUp (h : GI O g ln un nx pl f0 f1 f2 y) (hn : NV (O 0) (y 1) N K C nt) (h9 : nt ≤ 999) (z : Int32) : STEP (orE (chkB (inN z N) "java/lang/IndexOutOfBoundsException") (chkB (decide ((O 0) 8 z.toNatClampNeg = 0)) "java/lang/IllegalStateException")) "java/lang/IndexOutOfBoundsException" (((O 0) 0 0 - (O 0) 7 z.toNatClampNeg).toInt64) (if inN z N then (if y 1 (34 + 7 * z.toNatClampNeg + 4) = 0 then (rCloses (y 1) z.toNatClampNeg 3 (-1)) 0 - (rCloses (y 1) z.toNatClampNeg 3 (-1)) (34 + 7 * z.toNatClampNeg + 3) else 0) else 0).toInt64 ((if inN z N then (if y 1 (34 + 7 * z.toNatClampNeg + 4) = 0 then va_up (rKeep (yS y 3 0)) 1 (rCloses (y 1) z.toNatClampNeg 3 (-1)) else yS y 3 2) else yS y 3 1) 0 3) (GI (va_up (va_up O (3 + nx) (O 0)) 0 (pileClose (O 0) z.toNatClampNeg 3 ((O 0) 0 0) (-1))) g ln (if un = 8 then 8 else un + 1) ((nx + 1) % 8) pl f0 f1 f2 (if inN z N then (if y 1 (34 + 7 * z.toNatClampNeg + 4) = 0 then va_up (rKeep (yS y 3 0)) 1 (rCloses (y 1) z.toNatClampNeg 3 (-1)) else yS y 3 2) else yS y 3 1)) (GI O g ln un nx pl f0 f1 f2 (if inN z N then (if y 1 (34 + 7 * z.toNatClampNeg + 4) = 0 then va_up (rKeep (yS y 3 0)) 1 (rCloses (y 1) z.toNatClampNeg 3 (-1)) else yS y 3 2) else yS y 3 1)) := by
  cases c : inN z N
  · exact STEP.bad rfl h
  · obtain ⟨j, hj, -, e⟩ := inN_t (by have := hn.N24; omega) c
    rw [e, show (O 0) 8 j = y 1 (34 + 7 * j + 4) from hn.ro.p j hj 4 (by decide)]
    by_cases c2 : y 1 (34 + 7 * j + 4) = 0
    · rw [decide_eq_true c2, if_pos c2, if_pos c2]
      refine STEP.ok rfl (congrArg Int32.toInt64 ?_) (h.push ⟨N, K, C, nt, hn.close hj c2, h9⟩)
      show (O 0) 0 0 - (O 0) 7 j = rCloses (y 1) j 3 (-1) 0 - rCloses (y 1) j 3 (-1) (34 + 7 * j + 3)
      rw [rCloses_ne _ _ _ _ (by omega) (by omega) (by omega), rCloses_ne _ _ _ _ (by omega) (by omega) (by omega), hn.ro.i 0 (by decide), show (O 0) 7 j = y 1 (34 + 7 * j + 3) from hn.ro.p j hj 3 (by decide)]
    · rw [decide_eq_false c2, if_neg c2, if_neg c2]
      exact STEP.bad rfl h
theorem st_isAnswered (h : GI O g ln un nx pl f0 f1 f2 y) (hn : NV (O 0) (y 1) N K C nt) (z : Int32) : STEP (chkB (inN z N) "java/lang/IndexOutOfBoundsException") "java/lang/IndexOutOfBoundsException" ((if ((decide ((O 0) 8 z.toNatClampNeg = 1))) then 1 else 0)) (if (inN z N && decide (y 1 (34 + 7 * z.toNatClampNeg + 4) = 1)) then 1 else 0) ((yS y 3 (if inN z N then 0 else 1)) 0 3) (GI O g ln un nx pl f0 f1 f2 (yS y 3 (if inN z N then 0 else 1))) (GI O g ln un nx pl f0 f1 f2 (yS y 3 (if inN z N then 0 else 1))) := by
  cases c : inN z N
  · exact STEP.bad rfl h
  · obtain ⟨j, hj, -, e⟩ := inN_t (by have := hn.N24; omega) c
    refine STEP.ok rfl ?_ h
    rw [e, show (O 0) 8 j = y 1 (34 + 7 * j + 4) from hn.ro.p j hj 4 (by decide), Bool.true_and]
theorem st_isDismissed (h : GI O g ln un nx pl f0 f1 f2 y) (hn : NV (O 0) (y 1) N K C nt) (z : Int32) : STEP (chkB (inN z N) "java/lang/IndexOutOfBoundsException") "java/lang/IndexOutOfBoundsException" ((if ((decide ((O 0) 8 z.toNatClampNeg = 2))) then 1 else 0)) (if (inN z N && decide (y 1 (34 + 7 * z.toNatClampNeg + 4) = 2)) then 1 else 0) ((yS y 3 (if inN z N then 0 else 1)) 0 3) (GI O g ln un nx pl f0 f1 f2 (yS y 3 (if inN z N then 0 else 1))) (GI O g ln un nx pl f0 f1 f2 (yS y 3 (if inN z N then 0 else 1))) := by
  cases c : inN z N
  · exact STEP.bad rfl h
  · obtain ⟨j, hj, -, e⟩ := inN_t (by have := hn.N24; omega) c
    refine STEP.ok rfl ?_ h
    rw [e, show (O 0) 8 j = y 1 (34 + 7 * j + 4) from hn.ro.p j hj 4 (by decide), Bool.true_and]
theorem st_isGivenUp (h : GI O g ln un nx pl f0 f1 f2 y) (hn : NV (O 0) (y 1) N K C nt) (z : Int32) : STEP (chkB (inN z N) "java/lang/IndexOutOfBoundsException") "java/lang/IndexOutOfBoundsException" ((if ((decide ((O 0) 8 z.toNatClampNeg = 3))) then 1 else 0)) (if (inN z N && decide (y 1 (34 + 7 * z.toNatClampNeg + 4) = 3)) then 1 else 0) ((yS y 3 (if inN z N then 0 else 1)) 0 3) (GI O g ln un nx pl f0 f1 f2 (yS y 3 (if inN z N then 0 else 1))) (GI O g ln un nx pl f0 f1 f2 (yS y 3 (if inN z N then 0 else 1))) := by
  cases c : inN z N
  · exact STEP.bad rfl h
  · obtain ⟨j, hj, -, e⟩ := inN_t (by have := hn.N24; omega) c
    refine STEP.ok rfl ?_ h
    rw [e, show (O 0) 8 j = y 1 (34 + 7 * j + 4) from hn.ro.p j hj 4 (by decide), Bool.true_and]
theorem st_isJustified (h : GI O g ln un nx pl f0 f1 f2 y) (hn : NV (O 0) (y 1) N K C nt) (z : Int32) (z1 : Int32) : STEP (orE (chkB (rg z 0 3) "java/lang/IllegalArgumentException") (chkB (rg z1 0 2000) "java/lang/IllegalArgumentException")) "java/lang/IllegalArgumentException" ((if ((justB z.toNatClampNeg ((O 0) 0 1) ((O 0) 0 2) ((O 0) 0 3) z1.toNatClampNeg ((O 0) 1 (z1.toNatClampNeg % C)))) then 1 else 0)) (if (rg z 0 3 && rg z1 0 2000 && justB z.toNatClampNeg (y 1 1) (y 1 2) (y 1 3) z1.toNatClampNeg (y 1 (9 + z1.toNatClampNeg % C))) then 1 else 0) ((yS y 3 (if rg z 0 3 && rg z1 0 2000 then 0 else 1)) 0 3) (GI O g ln un nx pl f0 f1 f2 (yS y 3 (if rg z 0 3 && rg z1 0 2000 then 0 else 1))) (GI O g ln un nx pl f0 f1 f2 (yS y 3 (if rg z 0 3 && rg z1 0 2000 then 0 else 1))) := by
  cases c : rg z 0 3
  · exact STEP.bad rfl h
  · cases c2 : rg z1 0 2000
    · exact STEP.bad rfl h
    · refine STEP.ok rfl ?_ h
      rw [hn.ro.i 1 (by decide), hn.ro.i 2 (by decide), hn.ro.i 3 (by decide), hn.ro.c _ (Nat.mod_lt _ hn.C0), Bool.true_and, Bool.true_and]
theorem st_isWaiting (h : GI O g ln un nx pl f0 f1 f2 y) (hn : NV (O 0) (y 1) N K C nt) (z : Int32) : STEP (chkB (inN z N) "java/lang/IndexOutOfBoundsException") "java/lang/IndexOutOfBoundsException" ((if ((decide ((O 0) 8 z.toNatClampNeg = 0))) then 1 else 0)) (if (inN z N && decide (y 1 (34 + 7 * z.toNatClampNeg + 4) = 0)) then 1 else 0) ((yS y 3 (if inN z N then 0 else 1)) 0 3) (GI O g ln un nx pl f0 f1 f2 (yS y 3 (if inN z N then 0 else 1))) (GI O g ln un nx pl f0 f1 f2 (yS y 3 (if inN z N then 0 else 1))) := by
  cases c : inN z N
  · exact STEP.bad rfl h
  · obtain ⟨j, hj, -, e⟩ := inN_t (by have := hn.N24; omega) c
    refine STEP.ok rfl ?_ h
    rw [e, show (O 0) 8 j = y 1 (34 + 7 * j + 4) from hn.ro.p j hj 4 (by decide), Bool.true_and]
theorem st_justifiedNights (h : GI O g ln un nx pl f0 f1 f2 y) (hn : NV (O 0) (y 1) N K C nt) (z : Int32) : STEP (chkB (rg z 0 3) "java/lang/IllegalArgumentException") "java/lang/IllegalArgumentException" ((jcC (O 0) C nt z.toNatClampNeg).toInt64) (if rg z 0 3 then cntJ (y 1) C nt z.toNatClampNeg else 0).toInt64 ((yS y 3 (if rg z 0 3 then 0 else 1)) 0 3) (GI O g ln un nx pl f0 f1 f2 (yS y 3 (if rg z 0 3 then 0 else 1))) (GI O g ln un nx pl f0 f1 f2 (yS y 3 (if rg z 0 3 then 0 else 1))) := by
  cases c : rg z 0 3
  · exact STEP.bad rfl h
  · exact STEP.ok rfl (congrArg Int32.toInt64 (jcC_R hn.ro hn.C0 _ _)) h
theorem st_lightOf (h : GI O g ln un nx pl f0 f1 f2 y) (hn : NV (O 0) (y 1) N K C nt) (z : Int32) : STEP (chkB (rg z 0 2000) "java/lang/IllegalArgumentException") "java/lang/IllegalArgumentException" ((nI (lightN z.toNatClampNeg)).toInt64) (if rg z 0 2000 then nI (lightN z.toNatClampNeg) else 0).toInt64 ((yS y 3 (if rg z 0 2000 then 0 else 1)) 0 3) (GI O g ln un nx pl f0 f1 f2 (yS y 3 (if rg z 0 2000 then 0 else 1))) (GI O g ln un nx pl f0 f1 f2 (yS y 3 (if rg z 0 2000 then 0 else 1))) := by
  cases c : rg z 0 2000
  · exact STEP.bad rfl h
  · exact STEP.ok rfl rfl h
theorem st_nextJustified (h : GI O g ln un nx pl f0 f1 f2 y) (hn : NV (O 0) (y 1) N K C nt) (z : Int32) : STEP (orE (chkB (rg z 0 3) "java/lang/IllegalArgumentException") (chkB ((nextC (O 0) C nt z.toNatClampNeg).isSome) "java/util/NoSuchElementException")) "java/lang/IllegalArgumentException" (((nextC (O 0) C nt z.toNatClampNeg).elim 0 nI).toInt64) (if rg z 0 3 then (nextR (y 1) C nt z.toNatClampNeg).elim 0 nI else 0).toInt64 ((yS y 3 (if rg z 0 3 then (if (nextR (y 1) C nt z.toNatClampNeg).isSome then 0 else 2) else 1)) 0 3) (GI O g ln un nx pl f0 f1 f2 (yS y 3 (if rg z 0 3 then (if (nextR (y 1) C nt z.toNatClampNeg).isSome then 0 else 2) else 1))) (GI O g ln un nx pl f0 f1 f2 (yS y 3 (if rg z 0 3 then (if (nextR (y 1) C nt z.toNatClampNeg).isSome then 0 else 2) else 1))) := by
  rw [nextC_R hn.ro hn.C0]
  cases c : rg z 0 3
  · exact STEP.bad rfl h
  · cases c2 : nextR (y 1) C nt z.toNatClampNeg with
    | none => exact STEP.bad rfl h
    | some j => exact STEP.ok rfl rfl h
theorem st_nightsToClose (h : GI O g ln un nx pl f0 f1 f2 y) (hn : NV (O 0) (y 1) N K C nt) (h9 : nt ≤ 999) (z : Int32) : STEP (orE (chkB (inN z N) "java/lang/IndexOutOfBoundsException") (chkB (decide ((O 0) 8 z.toNatClampNeg = 0)) "java/lang/IllegalStateException")) "java/lang/IndexOutOfBoundsException" ((nI (cUntil N K C z.toNatClampNeg 56 nt (O 0)).1).toInt64) (if inN z N then (if y 1 (34 + 7 * z.toNatClampNeg + 4) = 0 then nI (rUntil N K C z.toNatClampNeg 57 nt (lay0 y)).1 else 0) else 0).toInt64 ((if inN z N then (if y 1 (34 + 7 * z.toNatClampNeg + 4) = 0 then yS (va_up y 3 (rUntil N K C z.toNatClampNeg 57 nt (lay0 y)).2) 3 0 else yS y 3 2) else yS y 3 1) 0 3) (GI (va_up O 1 ((cUntil N K C z.toNatClampNeg 56 nt (O 0)).2)) g ln un nx pl f0 f1 f2 (if inN z N then (if y 1 (34 + 7 * z.toNatClampNeg + 4) = 0 then yS (va_up y 3 (rUntil N K C z.toNatClampNeg 57 nt (lay0 y)).2) 3 0 else yS y 3 2) else yS y 3 1)) (GI O g ln un nx pl f0 f1 f2 (if inN z N then (if y 1 (34 + 7 * z.toNatClampNeg + 4) = 0 then yS (va_up y 3 (rUntil N K C z.toNatClampNeg 57 nt (lay0 y)).2) 3 0 else yS y 3 2) else yS y 3 1)) := by
  cases c : inN z N
  · exact STEP.bad rfl h
  · obtain ⟨j, hj, -, e⟩ := inN_t (by have := hn.N24; omega) c
    rw [e, show (O 0) 8 j = y 1 (34 + 7 * j + 4) from hn.ro.p j hj 4 (by decide)]
    by_cases c2 : y 1 (34 + 7 * j + 4) = 0
    · rw [decide_eq_true c2, if_pos c2, if_pos c2]
      obtain ⟨g1, -⟩ := hn.until h9 hj
      rw [g1]
      exact STEP.ok rfl rfl h.spare
    · rw [decide_eq_false c2, if_neg c2, if_neg c2]
      exact STEP.bad rfl h
theorem st_oilOf (h : GI O g ln un nx pl f0 f1 f2 y) (hn : NV (O 0) (y 1) N K C nt) (z : Int32) : STEP (chkB (inN z K) "java/lang/IndexOutOfBoundsException") "java/lang/IndexOutOfBoundsException" (((O 0) 3 z.toNatClampNeg).toInt64) (if inN z K then y 1 (19 + 3 * z.toNatClampNeg + 1) else 0).toInt64 ((yS y 3 (if inN z K then 0 else 1)) 0 3) (GI O g ln un nx pl f0 f1 f2 (yS y 3 (if inN z K then 0 else 1))) (GI O g ln un nx pl f0 f1 f2 (yS y 3 (if inN z K then 0 else 1))) := by
  cases c : inN z K
  · exact STEP.bad rfl h
  · obtain ⟨j, hj, -, e⟩ := inN_t (by have := hn.K5; omega) c
    refine STEP.ok rfl ?_ h
    show ((O 0) 3 z.toNatClampNeg).toInt64 = (y 1 (19 + 3 * z.toNatClampNeg + 1)).toInt64
    rw [e]
    exact congrArg Int32.toInt64 (hn.ro.l j hj)
theorem st_oldest (h : GI O g ln un nx pl f0 f1 f2 y) (hn : NV (O 0) (y 1) N K C nt) : STEP (chkB ((firstC (O 0) ((O 0) 0 0) N).isSome) "java/util/NoSuchElementException") "java/util/NoSuchElementException" (((firstC (O 0) ((O 0) 0 0) N).elim 0 nI).toInt64) ((oldR (y 1) N).elim 0 nI).toInt64 ((yS y 3 (if (oldR (y 1) N).isSome then 0 else 1)) 0 3) (GI O g ln un nx pl f0 f1 f2 (yS y 3 (if (oldR (y 1) N).isSome then 0 else 1))) (GI O g ln un nx pl f0 f1 f2 (yS y 3 (if (oldR (y 1) N).isSome then 0 else 1))) := by
  rw [firstC_oldest hn.ro hn.r0 hn.nt18 hn.vi.fl]
  cases c2 : oldR (y 1) N with
  | none => exact STEP.bad rfl h
  | some j => exact STEP.ok rfl rfl h
theorem st_personOf (h : GI O g ln un nx pl f0 f1 f2 y) (hn : NV (O 0) (y 1) N K C nt) (z : Int32) : STEP (chkB (inN z N) "java/lang/IndexOutOfBoundsException") "java/lang/IndexOutOfBoundsException" (((O 0) 4 z.toNatClampNeg).toInt64) (if inN z N then y 1 (34 + 7 * z.toNatClampNeg) else 0).toInt64 ((yS y 3 (if inN z N then 0 else 1)) 0 3) (GI O g ln un nx pl f0 f1 f2 (yS y 3 (if inN z N then 0 else 1))) (GI O g ln un nx pl f0 f1 f2 (yS y 3 (if inN z N then 0 else 1))) := by
  cases c : inN z N
  · exact STEP.bad rfl h
  · obtain ⟨j, hj, -, e⟩ := inN_t (by have := hn.N24; omega) c
    refine STEP.ok rfl ?_ h
    show ((O 0) 4 z.toNatClampNeg).toInt64 = (y 1 (34 + 7 * z.toNatClampNeg)).toInt64
    rw [e]
    exact congrArg Int32.toInt64 (hn.ro.p j hj 0 (by decide))
theorem st_refill (h : GI O g ln un nx pl f0 f1 f2 y) (hn : NV (O 0) (y 1) N K C nt) (h9 : nt ≤ 999) (z : Int32) (z1 : Int32) : STEP (orE (chkB (inN z K) "java/lang/IndexOutOfBoundsException") (chkB (rg z1 1 99) "java/lang/IllegalArgumentException")) "java/lang/IndexOutOfBoundsException" ((if (O 0) 3 z.toNatClampNeg + z1 < 99 then (O 0) 3 z.toNatClampNeg + z1 else 99).toInt64) (if inN z K then (if rg z1 1 99 then (va_up (y 1) (19 + 3 * z.toNatClampNeg + 1) (if 99 < y 1 (19 + 3 * z.toNatClampNeg + 1) + z1 then 99 else y 1 (19 + 3 * z.toNatClampNeg + 1) + z1)) (19 + 3 * z.toNatClampNeg + 1) else 0) else 0).toInt64 ((if inN z K then (if rg z1 1 99 then va_up (rKeep (yS y 3 0)) 1 (va_up (y 1) (19 + 3 * z.toNatClampNeg + 1) (if 99 < y 1 (19 + 3 * z.toNatClampNeg + 1) + z1 then 99 else y 1 (19 + 3 * z.toNatClampNeg + 1) + z1)) else yS y 3 2) else yS y 3 1) 0 3) (GI (va_up (va_up O (3 + nx) (O 0)) 0 (va_up (O 0) 3 (va_up ((O 0) 3) z.toNatClampNeg (if (O 0) 3 z.toNatClampNeg + z1 < 99 then (O 0) 3 z.toNatClampNeg + z1 else 99)))) g ln (if un = 8 then 8 else un + 1) ((nx + 1) % 8) pl f0 f1 f2 (if inN z K then (if rg z1 1 99 then va_up (rKeep (yS y 3 0)) 1 (va_up (y 1) (19 + 3 * z.toNatClampNeg + 1) (if 99 < y 1 (19 + 3 * z.toNatClampNeg + 1) + z1 then 99 else y 1 (19 + 3 * z.toNatClampNeg + 1) + z1)) else yS y 3 2) else yS y 3 1)) (GI O g ln un nx pl f0 f1 f2 (if inN z K then (if rg z1 1 99 then va_up (rKeep (yS y 3 0)) 1 (va_up (y 1) (19 + 3 * z.toNatClampNeg + 1) (if 99 < y 1 (19 + 3 * z.toNatClampNeg + 1) + z1 then 99 else y 1 (19 + 3 * z.toNatClampNeg + 1) + z1)) else yS y 3 2) else yS y 3 1)) := by
  cases c : inN z K
  · exact STEP.bad rfl h
  · cases c1 : rg z1 1 99
    · exact STEP.bad rfl h
    · obtain ⟨j, hj, -, e⟩ := inN_t (by have := hn.K5; omega) c
      obtain ⟨w, hw, e1⟩ := rg_1 (n := 99) (by decide) c1
      obtain ⟨x, hx, e2⟩ := hn.vi.oil j hj
      obtain ⟨m1, m2⟩ := oil_min x w hx hw.2
      rw [e, show (O 0) 3 j = y 1 (19 + 3 * j + 1) from hn.ro.l j hj, e2, e1, m1, m2]
      refine STEP.ok rfl (congrArg Int32.toInt64 ?_) (h.push ⟨N, K, C, nt, hn.oil hj (by split <;> omega), h9⟩)
      exact (if_pos rfl).symm
theorem st_restoreSnapshot (h : GI O g ln un nx pl f0 f1 f2 y) (z : Int32) : STEP (orE (chkB (inN z 2) "java/lang/IndexOutOfBoundsException") (chkB (!decide (f2 z.toNatClampNeg = 0)) "java/util/NoSuchElementException")) "java/lang/IndexOutOfBoundsException" (((O (11 + z.toNatClampNeg)) 0 0).toInt64) (if rg z 0 1 then (if y 6 z.toNatClampNeg = 0 then 0 else rLay (y 5) (202 * z.toNatClampNeg) 0 (y 1) 0) else 0).toInt64 ((if rg z 0 1 then (if y 6 z.toNatClampNeg = 0 then yS y 3 2 else va_up (rKeep (yS y 3 0)) 1 (rLay (y 5) (202 * z.toNatClampNeg) 0 (y 1))) else yS y 3 1) 0 3) (GI (va_up (va_up O (3 + nx) (O 0)) 0 (O (11 + z.toNatClampNeg))) g ln (if un = 8 then 8 else un + 1) ((nx + 1) % 8) pl f0 f1 f2 (if rg z 0 1 then (if y 6 z.toNatClampNeg = 0 then yS y 3 2 else va_up (rKeep (yS y 3 0)) 1 (rLay (y 5) (202 * z.toNatClampNeg) 0 (y 1))) else yS y 3 1)) (GI O g ln un nx pl f0 f1 f2 (if rg z 0 1 then (if y 6 z.toNatClampNeg = 0 then yS y 3 2 else va_up (rKeep (yS y 3 0)) 1 (rLay (y 5) (202 * z.toNatClampNeg) 0 (y 1))) else yS y 3 1)) := by
  rw [show rg z 0 1 = inN z 2 from inN_R (n := 2) (by decide)]
  cases c : inN z 2
  · exact STEP.bad rfl h
  · obtain ⟨k, hk, -, e⟩ := inN_t (by omega) c
    rw [e, (h.2.2.1 k hk).1]
    by_cases c2 : f2 k = 0
    · rw [decide_eq_true c2, if_pos c2, if_pos c2]
      exact STEP.bad rfl h
    · rw [decide_eq_false c2, if_neg c2, if_neg c2]
      have hs := h.slot hk c2
      generalize rLay (y 5) (202 * k) 0 (y 1) = rr at hs ⊢
      obtain ⟨N, K, C, nt, hn, -⟩ := id hs
      exact STEP.ok rfl (congrArg Int32.toInt64 (hn.ro.i 0 (by decide))) (h.push hs)
theorem st_saveSnapshot (h : GI O g ln un nx pl f0 f1 f2 y) (z : Int32) : STEP (chkB (inN z 2) "java/lang/IndexOutOfBoundsException") "java/lang/IndexOutOfBoundsException" (((O 0) 0 0).toInt64) (if rg z 0 1 then y 1 0 else 0).toInt64 ((if rg z 0 1 then yS (va_up (va_up y 5 (rLay (y 1) 0 (202 * z.toNatClampNeg) (y 5))) 6 (va_up (y 6) z.toNatClampNeg 1)) 3 0 else yS y 3 1) 0 3) (GI (va_up O (11 + z.toNatClampNeg) (O 0)) g ln un nx pl f0 f1 (va_up f2 z.toNatClampNeg 1) (if rg z 0 1 then yS (va_up (va_up y 5 (rLay (y 1) 0 (202 * z.toNatClampNeg) (y 5))) 6 (va_up (y 6) z.toNatClampNeg 1)) 3 0 else yS y 3 1)) (GI O g ln un nx pl f0 f1 f2 (if rg z 0 1 then yS (va_up (va_up y 5 (rLay (y 1) 0 (202 * z.toNatClampNeg) (y 5))) 6 (va_up (y 6) z.toNatClampNeg 1)) 3 0 else yS y 3 1)) := by
  rw [show rg z 0 1 = inN z 2 from inN_R (n := 2) (by decide)]
  cases c : inN z 2
  · exact STEP.bad rfl h
  · obtain ⟨k, hk, -, e⟩ := inN_t (by omega) c
    obtain ⟨N, K, C, nt, hn, -⟩ := h.1
    rw [e]
    exact STEP.ok rfl (congrArg Int32.toInt64 (hn.ro.i 0 (by decide))) (h.save hk)
theorem st_setCloud (h : GI O g ln un nx pl f0 f1 f2 y) (hn : NV (O 0) (y 1) N K C nt) (h9 : nt ≤ 999) (z : Int32) (z1 : Int32) : STEP (orE (chkB (inN z C) "java/lang/IndexOutOfBoundsException") (chkB (rg z1 0 9) "java/lang/IllegalArgumentException")) "java/lang/IndexOutOfBoundsException" (((O 0) 1 z.toNatClampNeg).toInt64) (if inN z C then (if rg z1 0 9 then y 1 (9 + z.toNatClampNeg) else 0) else 0).toInt64 ((if inN z C then (if rg z1 0 9 then va_up (rKeep (yS y 3 0)) 1 (va_up (y 1) (9 + z.toNatClampNeg) z1) else yS y 3 2) else yS y 3 1) 0 3) (GI (va_up (va_up O (3 + nx) (O 0)) 0 (va_up (O 0) 1 (va_up ((O 0) 1) z.toNatClampNeg z1))) g ln (if un = 8 then 8 else un + 1) ((nx + 1) % 8) pl f0 f1 f2 (if inN z C then (if rg z1 0 9 then va_up (rKeep (yS y 3 0)) 1 (va_up (y 1) (9 + z.toNatClampNeg) z1) else yS y 3 2) else yS y 3 1)) (GI O g ln un nx pl f0 f1 f2 (if inN z C then (if rg z1 0 9 then va_up (rKeep (yS y 3 0)) 1 (va_up (y 1) (9 + z.toNatClampNeg) z1) else yS y 3 2) else yS y 3 1)) := by
  cases c : inN z C
  · exact STEP.bad rfl h
  · cases c1 : rg z1 0 9
    · exact STEP.bad rfl h
    · obtain ⟨j, hj, -, e⟩ := inN_t (by have := hn.C10; omega) c
      obtain ⟨w, hw, e1, -⟩ := rg_nat (n := 9) (by decide) c1
      rw [e, e1]
      exact STEP.ok rfl (congrArg Int32.toInt64 (hn.ro.c j hj)) (h.push ⟨N, K, C, nt, hn.cloud hj hw, h9⟩)
theorem st_setGlareLimit (h : GI O g ln un nx pl f0 f1 f2 y) (hn : NV (O 0) (y 1) N K C nt) (h9 : nt ≤ 999) (z : Int32) : STEP (chkB (rg z 1 14) "java/lang/IllegalArgumentException") "java/lang/IllegalArgumentException" (((O 0) 0 1).toInt64) (if rg z 1 14 then y 1 1 else 0).toInt64 ((if rg z 1 14 then va_up (rKeep (yS y 3 0)) 1 (va_up (y 1) 1 z) else yS y 3 1) 0 3) (GI (va_up (va_up O (3 + nx) (O 0)) 0 (dS (O 0) 1 z)) g ln (if un = 8 then 8 else un + 1) ((nx + 1) % 8) pl f0 f1 f2 (if rg z 1 14 then va_up (rKeep (yS y 3 0)) 1 (va_up (y 1) 1 z) else yS y 3 1)) (GI O g ln un nx pl f0 f1 f2 (if rg z 1 14 then va_up (rKeep (yS y 3 0)) 1 (va_up (y 1) 1 z) else yS y 3 1)) := by
  cases c : rg z 1 14
  · exact STEP.bad rfl h
  · exact STEP.ok rfl (congrArg Int32.toInt64 (hn.ro.i 1 (by decide))) (h.push ⟨N, K, C, nt, hn.lim z (by omega), h9⟩)
theorem st_setGloomLimit (h : GI O g ln un nx pl f0 f1 f2 y) (hn : NV (O 0) (y 1) N K C nt) (h9 : nt ≤ 999) (z : Int32) : STEP (chkB (rg z 0 13) "java/lang/IllegalArgumentException") "java/lang/IllegalArgumentException" (((O 0) 0 2).toInt64) (if rg z 0 13 then y 1 2 else 0).toInt64 ((if rg z 0 13 then va_up (rKeep (yS y 3 0)) 1 (va_up (y 1) 2 z) else yS y 3 1) 0 3) (GI (va_up (va_up O (3 + nx) (O 0)) 0 (dS (O 0) 2 z)) g ln (if un = 8 then 8 else un + 1) ((nx + 1) % 8) pl f0 f1 f2 (if rg z 0 13 then va_up (rKeep (yS y 3 0)) 1 (va_up (y 1) 2 z) else yS y 3 1)) (GI O g ln un nx pl f0 f1 f2 (if rg z 0 13 then va_up (rKeep (yS y 3 0)) 1 (va_up (y 1) 2 z) else yS y 3 1)) := by
  cases c : rg z 0 13
  · exact STEP.bad rfl h
  · exact STEP.ok rfl (congrArg Int32.toInt64 (hn.ro.i 2 (by decide))) (h.push ⟨N, K, C, nt, hn.lim z (by omega), h9⟩)
theorem st_setTideLimit (h : GI O g ln un nx pl f0 f1 f2 y) (hn : NV (O 0) (y 1) N K C nt) (h9 : nt ≤ 999) (z : Int32) : STEP (chkB (rg z 0 7) "java/lang/IllegalArgumentException") "java/lang/IllegalArgumentException" (((O 0) 0 3).toInt64) (if rg z 0 7 then y 1 3 else 0).toInt64 ((if rg z 0 7 then va_up (rKeep (yS y 3 0)) 1 (va_up (y 1) 3 z) else yS y 3 1) 0 3) (GI (va_up (va_up O (3 + nx) (O 0)) 0 (dS (O 0) 3 z)) g ln (if un = 8 then 8 else un + 1) ((nx + 1) % 8) pl f0 f1 f2 (if rg z 0 7 then va_up (rKeep (yS y 3 0)) 1 (va_up (y 1) 3 z) else yS y 3 1)) (GI O g ln un nx pl f0 f1 f2 (if rg z 0 7 then va_up (rKeep (yS y 3 0)) 1 (va_up (y 1) 3 z) else yS y 3 1)) := by
  cases c : rg z 0 7
  · exact STEP.bad rfl h
  · exact STEP.ok rfl (congrArg Int32.toInt64 (hn.ro.i 3 (by decide))) (h.push ⟨N, K, C, nt, hn.lim z (by omega), h9⟩)
theorem st_shorten (h : GI O g ln un nx pl f0 f1 f2 y) (z : Int32) : STEP (chkB (rg z 0 (nI ln)) "java/lang/IllegalArgumentException") "java/lang/IllegalArgumentException" ((z).toInt64) (if rg z 0 (nI ln) then z else 0).toInt64 ((if rg z 0 (nI ln) then yS (yS y 3 0) 1 z else yS y 3 1) 0 3) (GI O g z.toNatClampNeg un nx pl f0 f1 f2 (if rg z 0 (nI ln) then yS (yS y 3 0) 1 z else yS y 3 1)) (GI O g ln un nx pl f0 f1 f2 (if rg z 0 (nI ln) then yS (yS y 3 0) 1 z else yS y 3 1)) := by
  cases c : rg z 0 (nI ln)
  · exact STEP.bad rfl h
  · obtain ⟨g1, g2, g3⟩ := h.2.2.2.1
    obtain ⟨k, hk, e1, e2⟩ := rg_nat (by omega) c
    refine STEP.ok rfl rfl ?_
    rw [e2]
    refine ⟨h.1, h.2.1, h.2.2.1, ⟨by omega, e1, fun i hi => g3 i (by omega)⟩, h.2.2.2.2.1, h.2.2.2.2.2⟩
theorem st_skillOf (h : GI O g ln un nx pl f0 f1 f2 y) (hn : NV (O 0) (y 1) N K C nt) (z : Int32) : STEP (chkB (inN z K) "java/lang/IndexOutOfBoundsException") "java/lang/IndexOutOfBoundsException" (((O 0) 2 z.toNatClampNeg).toInt64) (if inN z K then y 1 (19 + 3 * z.toNatClampNeg) else 0).toInt64 ((yS y 3 (if inN z K then 0 else 1)) 0 3) (GI O g ln un nx pl f0 f1 f2 (yS y 3 (if inN z K then 0 else 1))) (GI O g ln un nx pl f0 f1 f2 (yS y 3 (if inN z K then 0 else 1))) := by
  cases c : inN z K
  · exact STEP.bad rfl h
  · obtain ⟨j, hj, -, e⟩ := inN_t (by have := hn.K5; omega) c
    refine STEP.ok rfl ?_ h
    show ((O 0) 2 z.toNatClampNeg).toInt64 = (y 1 (19 + 3 * z.toNatClampNeg)).toInt64
    rw [e]
    exact congrArg Int32.toInt64 (hn.ro.k j hj)
theorem st_sortOf (h : GI O g ln un nx pl f0 f1 f2 y) (hn : NV (O 0) (y 1) N K C nt) (z : Int32) : STEP (chkB (inN z N) "java/lang/IndexOutOfBoundsException") "java/lang/IndexOutOfBoundsException" (((O 0) 5 z.toNatClampNeg).toInt64) (if inN z N then y 1 (34 + 7 * z.toNatClampNeg + 1) else 0).toInt64 ((yS y 3 (if inN z N then 0 else 1)) 0 3) (GI O g ln un nx pl f0 f1 f2 (yS y 3 (if inN z N then 0 else 1))) (GI O g ln un nx pl f0 f1 f2 (yS y 3 (if inN z N then 0 else 1))) := by
  cases c : inN z N
  · exact STEP.bad rfl h
  · obtain ⟨j, hj, -, e⟩ := inN_t (by have := hn.N24; omega) c
    refine STEP.ok rfl ?_ h
    show ((O 0) 5 z.toNatClampNeg).toInt64 = (y 1 (34 + 7 * z.toNatClampNeg + 1)).toInt64
    rw [e]
    exact congrArg Int32.toInt64 (hn.ro.p j hj 1 (by decide))
theorem st_tideOf (h : GI O g ln un nx pl f0 f1 f2 y) (hn : NV (O 0) (y 1) N K C nt) (z : Int32) : STEP (chkB (rg z 0 2000) "java/lang/IllegalArgumentException") "java/lang/IllegalArgumentException" ((nI (tideN z.toNatClampNeg)).toInt64) (if rg z 0 2000 then nI (tideN z.toNatClampNeg) else 0).toInt64 ((yS y 3 (if rg z 0 2000 then 0 else 1)) 0 3) (GI O g ln un nx pl f0 f1 f2 (yS y 3 (if rg z 0 2000 then 0 else 1))) (GI O g ln un nx pl f0 f1 f2 (yS y 3 (if rg z 0 2000 then 0 else 1))) := by
  cases c : rg z 0 2000
  · exact STEP.bad rfl h
  · exact STEP.ok rfl rfl h
theorem st_undo (h : GI O g ln un nx pl f0 f1 f2 y) : STEP (chkB (!decide (un = 0)) "java/lang/IllegalStateException") "java/lang/IllegalStateException" ((nI (un - 1)).toInt64) (if un = 0 then 0 else nI (un - 1)).toInt64 ((if un = 0 then yS y 3 1 else yS (yS (va_up y 1 (rLay (y 4) (202 * (un - 1)) 0 (y 1))) 3 0) 0 (nI (un - 1))) 0 3) (GI (va_up O 0 (O (3 + (nx + 7) % 8))) g ln (un - 1) ((nx + 7) % 8) pl f0 f1 f2 (if un = 0 then yS y 3 1 else yS (yS (va_up y 1 (rLay (y 4) (202 * (un - 1)) 0 (y 1))) 3 0) 0 (nI (un - 1)))) (GI O g ln un nx pl f0 f1 f2 (if un = 0 then yS y 3 1 else yS (yS (va_up y 1 (rLay (y 4) (202 * (un - 1)) 0 (y 1))) 3 0) 0 (nI (un - 1)))) := by
  by_cases c : un = 0
  · rw [decide_eq_true c, if_pos c, if_pos c]
    exact STEP.bad rfl h
  · rw [decide_eq_false c, if_neg c, if_neg c]
    exact STEP.ok rfl rfl (h.undo c)
theorem st_visibleLight (h : GI O g ln un nx pl f0 f1 f2 y) (hn : NV (O 0) (y 1) N K C nt) (z : Int32) : STEP (chkB (rg z 0 2000) "java/lang/IllegalArgumentException") "java/lang/IllegalArgumentException" ((visI z.toNatClampNeg ((O 0) 1 (z.toNatClampNeg % C))).toInt64) (if rg z 0 2000 then visI z.toNatClampNeg (y 1 (9 + z.toNatClampNeg % C)) else 0).toInt64 ((yS y 3 (if rg z 0 2000 then 0 else 1)) 0 3) (GI O g ln un nx pl f0 f1 f2 (yS y 3 (if rg z 0 2000 then 0 else 1))) (GI O g ln un nx pl f0 f1 f2 (yS y 3 (if rg z 0 2000 then 0 else 1))) := by
  cases c : rg z 0 2000
  · exact STEP.bad rfl h
  · exact STEP.ok rfl (congrArg (fun q => (visI z.toNatClampNeg q).toInt64) (hn.ro.c _ (Nat.mod_lt _ hn.C0))) h
theorem st_waitingOf (h : GI O g ln un nx pl f0 f1 f2 y) (hn : NV (O 0) (y 1) N K C nt) (z : Int32) (z1 : Int32) : STEP (orE (chkB (rg z 0 99) "java/lang/IllegalArgumentException") (orE (chkB (rg z1 0 3) "java/lang/IllegalArgumentException") (chkB ((findC (O 0) z z1 N).isSome) "java/util/NoSuchElementException"))) "java/lang/IllegalArgumentException" (((findC (O 0) z z1 N).elim 0 nI).toInt64) (if rg z 0 99 && rg z1 0 3 then (findR (y 1) z z1 N).elim 0 nI else 0).toInt64 ((yS y 3 (if rg z 0 99 && rg z1 0 3 then (if (findR (y 1) z z1 N).isSome then 0 else 2) else 1)) 0 3) (GI O g ln un nx pl f0 f1 f2 (yS y 3 (if rg z 0 99 && rg z1 0 3 then (if (findR (y 1) z z1 N).isSome then 0 else 2) else 1))) (GI O g ln un nx pl f0 f1 f2 (yS y 3 (if rg z 0 99 && rg z1 0 3 then (if (findR (y 1) z z1 N).isSome then 0 else 2) else 1))) := by
  rw [findC_R hn.ro]
  cases c : rg z 0 99
  · exact STEP.bad rfl h
  · cases c1 : rg z1 0 3
    · exact STEP.bad rfl h
    · cases c2 : findR (y 1) z z1 N with
      | none => exact STEP.bad rfl h
      | some j => exact STEP.ok rfl rfl h
theorem st_willBeAnswered (h : GI O g ln un nx pl f0 f1 f2 y) (hn : NV (O 0) (y 1) N K C nt) (h9 : nt ≤ 999) (z : Int32) : STEP (orE (chkB (inN z N) "java/lang/IndexOutOfBoundsException") (chkB (decide ((O 0) 8 z.toNatClampNeg = 0)) "java/lang/IllegalStateException")) "java/lang/IndexOutOfBoundsException" ((if ((decide ((cUntil N K C z.toNatClampNeg 56 nt (O 0)).2 8 z.toNatClampNeg = 1))) then 1 else 0)) (if (inN z N && decide (y 1 (34 + 7 * z.toNatClampNeg + 4) = 0) && decide ((rUntil N K C z.toNatClampNeg 57 nt (lay0 y)).2 (34 + 7 * z.toNatClampNeg + 4) = 1)) then 1 else 0) ((if inN z N then (if y 1 (34 + 7 * z.toNatClampNeg + 4) = 0 then yS (va_up y 3 (rUntil N K C z.toNatClampNeg 57 nt (lay0 y)).2) 3 0 else yS y 3 2) else yS y 3 1) 0 3) (GI (va_up O 1 ((cUntil N K C z.toNatClampNeg 56 nt (O 0)).2)) g ln un nx pl f0 f1 f2 (if inN z N then (if y 1 (34 + 7 * z.toNatClampNeg + 4) = 0 then yS (va_up y 3 (rUntil N K C z.toNatClampNeg 57 nt (lay0 y)).2) 3 0 else yS y 3 2) else yS y 3 1)) (GI O g ln un nx pl f0 f1 f2 (if inN z N then (if y 1 (34 + 7 * z.toNatClampNeg + 4) = 0 then yS (va_up y 3 (rUntil N K C z.toNatClampNeg 57 nt (lay0 y)).2) 3 0 else yS y 3 2) else yS y 3 1)) := by
  cases c : inN z N
  · exact STEP.bad rfl h
  · obtain ⟨j, hj, -, e⟩ := inN_t (by have := hn.N24; omega) c
    rw [e, show (O 0) 8 j = y 1 (34 + 7 * j + 4) from hn.ro.p j hj 4 (by decide)]
    by_cases c2 : y 1 (34 + 7 * j + 4) = 0
    · rw [decide_eq_true c2, if_pos c2]
      obtain ⟨-, nt', g2⟩ := hn.until h9 hj
      generalize (cUntil N K C j 56 nt (O 0)).2 = cc at g2 ⊢
      generalize (rUntil N K C j 57 nt (lay0 y)).2 = rr at g2 ⊢
      refine STEP.ok rfl ?_ h.spare
      rw [show cc 8 j = rr (34 + 7 * j + 4) from g2.ro.p j hj 4 (by decide)]
      rfl
    · rw [decide_eq_false c2, if_neg c2]
      exact STEP.bad rfl h
theorem st_writeComplaints (h : GI O g ln un nx pl f0 f1 f2 y) (hn : NV (O 0) (y 1) N K C nt) (z : Int32) : STEP (chkB (rg z 0 99) "java/lang/IllegalArgumentException") "java/lang/IllegalArgumentException" ((nI (iter (wStepC (O 0) z) N 0 (f1, 0)).2).toInt64) (if rg z 0 99 then nI (iter (wStepR (y 1) z) N 0 (y 8, 0)).2 else 0).toInt64 ((if rg z 0 99 then yS (yS (va_up y 8 (iter (wStepR (y 1) z) N 0 (y 8, 0)).1) 3 0) 9 (nI (iter (wStepR (y 1) z) N 0 (y 8, 0)).2) else yS y 3 1) 0 3) (GI O g ln un nx ((iter (wStepC (O 0) z) N 0 (f1, 0)).2) f0 ((iter (wStepC (O 0) z) N 0 (f1, 0)).1) f2 (if rg z 0 99 then yS (yS (va_up y 8 (iter (wStepR (y 1) z) N 0 (y 8, 0)).1) 3 0) 9 (nI (iter (wStepR (y 1) z) N 0 (y 8, 0)).2) else yS y 3 1)) (GI O g ln un nx pl f0 f1 f2 (if rg z 0 99 then yS (yS (va_up y 8 (iter (wStepR (y 1) z) N 0 (y 8, 0)).1) 3 0) 9 (nI (iter (wStepR (y 1) z) N 0 (y 8, 0)).2) else yS y 3 1)) := by
  cases c : rg z 0 99
  · exact STEP.bad rfl h
  · obtain ⟨e, e2, e3⟩ := write_R hn.ro z f1 (y 8)
    have hN := hn.N24
    refine STEP.ok rfl ?_ ⟨h.1, h.2.1, h.2.2.1, h.2.2.2.1, h.2.2.2.2.1, by rw [e]; omega, ?_, e2⟩
    · rw [e]; rfl
    · rw [e]; rfl
theorem st_writtenByte (h : GI O g ln un nx pl f0 f1 f2 y) (z : Int32) : STEP (chkB (inN z pl) "java/lang/IndexOutOfBoundsException") "java/lang/IndexOutOfBoundsException" ((f1 z.toNatClampNeg).toInt64) (if inN z pl then y 8 z.toNatClampNeg else 0).toInt64 ((yS y 3 (if inN z pl then 0 else 1)) 0 3) (GI O g ln un nx pl f0 f1 f2 (yS y 3 (if inN z pl then 0 else 1))) (GI O g ln un nx pl f0 f1 f2 (yS y 3 (if inN z pl then 0 else 1))) := by
  cases c : inN z pl
  · exact STEP.bad rfl h
  · obtain ⟨g1, g2, g3⟩ := h.2.2.2.2.2
    obtain ⟨j, hj, -, e⟩ := inN_t (by omega) c
    refine STEP.ok rfl ?_ h
    show (f1 z.toNatClampNeg).toInt64 = (y 8 z.toNatClampNeg).toInt64
    rw [e, g3 j hj]
end ST
