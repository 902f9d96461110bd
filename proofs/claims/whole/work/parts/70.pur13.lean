/-! answers compared at once -/
section EQ
variable {O : Nat → Nat → Nat → Int32} {g : CSt} {ln un nx pl : Nat} {f0 f1 f2 : Nat → Int32} {y : Nat → Nat → Int32} {N K C nt : Nat}
theorem eq_hasError (h : GI O g ln un nx pl f0 f1 f2 y) : bI g.2.2.2.1 = bI (decide (0 ≤ y 0 2)) := by
  rcases h.2.2.2.2.1 with ⟨e1, e2, k, hk, e3⟩ | ⟨e1, e2⟩
  · rw [e1, e3, decide_eq_true (nI_pos' hk)]
  · rw [e1, e2]; rfl
theorem eq_night (hn : NV (O 0) (y 1) N K C nt) : (O 0) 0 0 = y 1 0 := hn.ro.i 0 (by decide)
theorem eq_glareLimit (hn : NV (O 0) (y 1) N K C nt) : (O 0) 0 1 = y 1 1 := hn.ro.i 1 (by decide)
theorem eq_gloomLimit (hn : NV (O 0) (y 1) N K C nt) : (O 0) 0 2 = y 1 2 := hn.ro.i 2 (by decide)
theorem eq_tideLimit (hn : NV (O 0) (y 1) N K C nt) : (O 0) 0 3 = y 1 3 := hn.ro.i 3 (by decide)
theorem eq_cloudCount (hn : NV (O 0) (y 1) N K C nt) : (O 0) 0 4 = y 1 4 := hn.oi.2.2.2.2.1.trans hn.r4.symm
theorem eq_complaintCount (hn : NV (O 0) (y 1) N K C nt) : (O 0) 0 7 = y 1 6 := hn.oi.1.trans hn.r6.symm
theorem eq_clerkCount (hn : NV (O 0) (y 1) N K C nt) : (O 0) 0 5 = y 1 5 := hn.oi.2.2.1.trans hn.r5.symm
theorem eq_likeliestSort (hn : NV (O 0) (y 1) N K C nt) : nI (likeC (jcC (O 0) C nt)).1 = nI (likeR (cntJ (y 1) C nt)) := by
  rw [likeC_R, show jcC (O 0) C nt = cntJ (y 1) C nt from funext fun q => jcC_R hn.ro hn.C0 nt q]
theorem eq_waitingCount (hn : NV (O 0) (y 1) N K C nt) : cntC (O 0) 0 N = cntR (y 1) 0 N := cntC_R hn.ro 0
theorem eq_answeredCount (hn : NV (O 0) (y 1) N K C nt) : cntC (O 0) 1 N = cntR (y 1) 1 N := cntC_R hn.ro 1
theorem eq_dismissedCount (hn : NV (O 0) (y 1) N K C nt) : cntC (O 0) 2 N = cntR (y 1) 2 N := cntC_R hn.ro 2
theorem eq_givenUpCount (hn : NV (O 0) (y 1) N K C nt) : cntC (O 0) 3 N = cntR (y 1) 3 N := cntC_R hn.ro 3
theorem eq_oilCost (hn : NV (O 0) (y 1) N K C nt) : costC C nt (O 0) = costR C nt (y 1) := costC_R hn.ro hn.C0 nt
theorem eq_oilUsed (hn : NV (O 0) (y 1) N K C nt) : (O 0) 0 6 = y 1 7 := hn.ro.u
theorem eq_comfort (hn : NV (O 0) (y 1) N K C nt) : sumI (fun k => decide ((O 0) 8 k = 1)) (fun k => (O 0) 6 k) N 0 0 = y 1 8 := by
  rw [hn.vi.com]
  exact sumI_congr (fun k _ hk => by rw [show (O 0) 8 k = y 1 (34 + 7 * k + 4) from hn.ro.p k (by omega) 4 (by decide)]) (fun k _ hk => hn.ro.p k (by omega) 2 (by decide))
theorem eq_sumWait (hn : NV (O 0) (y 1) N K C nt) : sumI (fun k => decide ((O 0) 8 k = 1)) (fun k => (O 0) 9 k - (O 0) 7 k) N 0 0 = sumI (fun k => decide (y 1 (34 + 7 * k + 4) = 1)) (fun k => y 1 (34 + 7 * k + 5) - y 1 (34 + 7 * k + 3)) N 0 0 :=
  sumI_congr (fun k _ hk => by rw [show (O 0) 8 k = y 1 (34 + 7 * k + 4) from hn.ro.p k (by omega) 4 (by decide)]) (fun k _ hk => by rw [show (O 0) 9 k = y 1 (34 + 7 * k + 5) from hn.ro.p k (by omega) 5 (by decide), show (O 0) 7 k = y 1 (34 + 7 * k + 3) from hn.ro.p k (by omega) 3 (by decide)])
theorem eq_meanWait (hn : NV (O 0) (y 1) N K C nt) : meanI (sumI (fun k => decide ((O 0) 8 k = 1)) (fun k => (O 0) 9 k - (O 0) 7 k) N 0 0) (cntC (O 0) 1 N) = meanI (sumI (fun k => decide (y 1 (34 + 7 * k + 4) = 1)) (fun k => y 1 (34 + 7 * k + 5) - y 1 (34 + 7 * k + 3)) N 0 0) (cntR (y 1) 1 N) := by
  rw [eq_sumWait hn, eq_answeredCount hn]
theorem eq_answeredShare (hn : NV (O 0) (y 1) N K C nt) : shareI (cntC (O 0) 1 N) (nI N - cntC (O 0) 0 N) = shareI (cntR (y 1) 1 N) (nI N - cntR (y 1) 0 N) := by
  rw [eq_waitingCount hn, eq_answeredCount hn]
theorem eq_answersTonight (hn : NV (O 0) (y 1) N K C nt) (h9 : nt ≤ 999) : (nightC N K C nt (O 0)).1 = cntR (rEnds N K C nt (lay0 y)) 1 N - cntR (lay0 y) 1 N :=
  ((hn.eqr (r' := lay0 y) (fun i hi => rLay_0 hi)).night (by omega)).2
end EQ
