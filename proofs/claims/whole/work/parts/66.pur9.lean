/-! the two sides alike: rows copied, changes -/
section CG
variable {N K C nt : Nat}
theorem EqR.rfl {r : Nat → Int32} : EqR r r := fun _ _ => _root_.rfl
theorem RO.eqr {o : Nat → Nat → Int32} {r r' : Nat → Int32} (h : RO o r N K C) (hN : N ≤ 24) (hK : K ≤ 5) (hC : C ≤ 10) (e : EqR r r') : RO o r' N K C := RO.mk
  (i := fun a ha => (h.i a ha).trans (e _ (by omega)).symm)
  (u := h.u.trans (e 7 (by omega)).symm)
  (c := fun a ha => (h.c a ha).trans (e _ (by omega)).symm)
  (k := fun a ha => (h.k a ha).trans (e _ (by omega)).symm)
  (l := fun a ha => (h.l a ha).trans (e _ (by omega)).symm)
  (p := fun a ha b hb => (h.p a ha b hb).trans (e _ (by omega)).symm)
theorem VI.eqr {r r' : Nat → Int32} (h : VI r N K nt) (hN : N ≤ 24) (hK : K ≤ 5) (e : EqR r r') : VI r' N K nt := VI.mk
  (oil := fun j hj => by rw [e _ (by omega)]; exact h.oil j hj)
  (ans := fun j hj => by
    rw [e _ (by omega), h.ans j hj]
    exact cntI_congr (fun k _ hk => by rw [e _ (by omega), e _ (by omega)]))
  (com := by
    rw [e _ (by omega), h.com]
    exact sumI_congr (fun k _ hk => by rw [e _ (by omega)]) (fun k _ hk => by rw [e _ (by omega)]))
  (ang := fun k hk => by rw [e _ (by omega)]; exact h.ang k hk)
  (st := fun k hk => by rw [e _ (by omega)]; exact h.st k hk)
  (by_ := fun k hk => by rw [e _ (by omega)]; exact h.by_ k hk)
  (fl := h.fl.eqr hN e)
theorem CV.eqr {r r' : Nat → Int32} (h : CV r C) (hC : C ≤ 10) (e : EqR r r') : CV r' C := fun j hj => by rw [e _ (by omega)]; exact h j hj
section NVF
variable {o : Nat → Nat → Int32} {r : Nat → Int32}
theorem NV.N24 (h : NV o r N K C nt) : N ≤ 24 := h.1.2.1
theorem NV.K5 (h : NV o r N K C nt) : K ≤ 5 := h.1.2.2.2.1
theorem NV.C0 (h : NV o r N K C nt) : 0 < C := h.1.2.2.2.2.2.1
theorem NV.C10 (h : NV o r N K C nt) : C ≤ 10 := h.1.2.2.2.2.2.2.1
theorem NV.o0 (h : NV o r N K C nt) : o 0 0 = nI nt := h.1.2.2.2.2.2.2.2.1
theorem NV.nt18 (h : NV o r N K C nt) : nt < 2 ^ 18 := h.1.2.2.2.2.2.2.2.2.1
theorem NV.r0 (h : NV o r N K C nt) : r 0 = nI nt := h.2.1.2.2.2.2.2.2.2.1
theorem NV.r6 (h : NV o r N K C nt) : r 6 = nI N := h.2.1.1
theorem NV.r5 (h : NV o r N K C nt) : r 5 = nI K := h.2.1.2.2.1
theorem NV.r4 (h : NV o r N K C nt) : r 4 = nI C := h.2.1.2.2.2.2.1
theorem NV.so (h : NV o r N K C nt) : ∀ k, k < N → ∃ q, q < 4 ∧ r (34 + 7 * k + 1) = nI q := h.2.1.2.2.2.2.2.2.2.2.2.1
theorem NV.sk (h : NV o r N K C nt) : ∀ j, j < K → ∃ S, S ≤ 9 ∧ r (19 + 3 * j) = nI S := h.2.1.2.2.2.2.2.2.2.2.2.2
theorem NV.oi (h : NV o r N K C nt) : OI o N K C nt := h.1
theorem NV.ri (h : NV o r N K C nt) : RI r N K C nt := h.2.1
theorem NV.ro (h : NV o r N K C nt) : RO o r N K C := h.2.2.1
theorem NV.vi (h : NV o r N K C nt) : VI r N K nt := h.2.2.2.1
theorem NV.cv (h : NV o r N K C nt) : CV r C := h.2.2.2.2
theorem NV.eqr {r' : Nat → Int32} (h : NV o r N K C nt) (e : EqR r r') : NV o r' N K C nt :=
  ⟨h.oi, h.ri.eqr e, h.ro.eqr h.N24 h.K5 h.C10 e, h.vi.eqr h.N24 h.K5 e, h.cv.eqr h.C10 e⟩
/-! a complaint given up -/
theorem NV.close (h : NV o r N K C nt) {q : Nat} (hq : q < N) (h0 : r (34 + 7 * q + 4) = 0) : NV (pileClose o q 3 (o 0 0) (-1)) (rCloses r q 3 (-1)) N K C nt := by
  have lo : ∀ a, a < 34 → rCloses r q 3 (-1) a = r a := fun a ha => rCloses_lo ha
  refine ⟨h.1, ?_, ?_, h.vi.close (s := 3) h.K5 hq h0 (Or.inr rfl) (Or.inl rfl), fun j hj => ?_⟩
  · have h9 := h.C10
    have h8 := h.K5
    refine ⟨(lo 6 (by omega)).trans h.r6, h.N24, (lo 5 (by omega)).trans h.r5, h.K5, (lo 4 (by omega)).trans h.r4, h.C0, h.C10, (lo 0 (by omega)).trans h.r0, h.nt18, fun k hk => ?_, fun j hj => ?_⟩
    · rw [rCloses_ne _ _ _ _ (by omega) (by omega) (by omega)]; exact h.so k hk
    · rw [lo _ (by omega)]; exact h.sk j hj
  · rw [h.o0]
    exact h.ro.close h.K5 h.C10 q 3 (-1) (nI nt) h.r0
  · have h9 := h.C10
    rw [lo _ (by omega)]; exact h.cv j hj
/-! a lantern refilled -/
theorem NV.oil (h : NV o r N K C nt) {j w : Nat} (hj : j < K) (hw : w ≤ 99) : NV (va_up o 3 (va_up (o 3) j (nI w))) (va_up r (19 + 3 * j + 1) (nI w)) N K C nt := by
  have h9 := h.C10
  have h8 := h.K5
  have ne : ∀ a, a ≠ 19 + 3 * j + 1 → va_up r (19 + 3 * j + 1) (nI w) a = r a := fun a ha => if_neg ha
  refine ⟨h.1, ?_, h.ro.oil h.K5 h.C10 (by omega) _, ?_, fun i hi => ?_⟩
  · refine ⟨(ne 6 (by omega)).trans h.r6, h.N24, (ne 5 (by omega)).trans h.r5, h.K5, (ne 4 (by omega)).trans h.r4, h.C0, h.C10, (ne 0 (by omega)).trans h.r0, h.nt18, fun k hk => ?_, fun i hi => ?_⟩
    · rw [ne _ (by omega)]; exact h.so k hk
    · rw [ne _ (by omega)]; exact h.sk i hi
  · refine VI.mk ?_ ?_ ?_ ?_ ?_ ?_ ?_
    · intro i hi
      by_cases e : i = j
      · subst e; exact ⟨w, hw, if_pos rfl⟩
      · rw [ne _ (by omega)]; exact h.vi.oil i hi
    · intro i hi
      rw [ne _ (by omega), h.vi.ans i hi]
      exact cntI_congr (fun k _ _ => by rw [ne _ (by omega), ne _ (by omega)])
    · rw [ne _ (by omega), h.vi.com]
      exact sumI_congr (fun k _ _ => by rw [ne _ (by omega)]) (fun k _ _ => by rw [ne _ (by omega)])
    · intro k hk; rw [ne _ (by omega)]; exact h.vi.ang k hk
    · intro k hk; rw [ne _ (by omega)]; exact h.vi.st k hk
    · intro k hk; rw [ne _ (by omega)]; exact h.vi.by_ k hk
    · intro k hk
      obtain ⟨f, h1, h2, h3⟩ := h.vi.fl k hk
      exact ⟨f, h1, by rw [ne _ (by omega)]; exact h2, fun g => h3 (by rw [ne _ (by omega)] at g; exact g)⟩
  · rw [ne _ (by omega)]; exact h.cv i hi
/-! a row's low place set: nothing else speaks of it -/
theorem VI.low (h : VI r N K nt) {j : Nat} {v : Int32} (hj : j ≠ 8) (hj2 : j < 19) : VI (va_up r j v) N K nt := by
  have ne : ∀ a, a ≠ j → va_up r j v a = r a := fun a ha => if_neg ha
  refine VI.mk ?_ ?_ ?_ ?_ ?_ ?_ ?_
  · intro i hi; rw [ne _ (by omega)]; exact h.oil i hi
  · intro i hi
    rw [ne _ (by omega), h.ans i hi]
    exact cntI_congr (fun k _ _ => by rw [ne _ (by omega), ne _ (by omega)])
  · rw [ne _ (by omega), h.com]
    exact sumI_congr (fun k _ _ => by rw [ne _ (by omega)]) (fun k _ _ => by rw [ne _ (by omega)])
  · intro k hk; rw [ne _ (by omega)]; exact h.ang k hk
  · intro k hk; rw [ne _ (by omega)]; exact h.st k hk
  · intro k hk; rw [ne _ (by omega)]; exact h.by_ k hk
  · intro k hk
    obtain ⟨f, h1, h2, h3⟩ := h.fl k hk
    exact ⟨f, h1, by rw [ne _ (by omega)]; exact h2, fun g => h3 (by rw [ne _ (by omega)] at g; exact g)⟩
theorem RI.low (h : RI r N K C nt) {j : Nat} {v : Int32} (hj : j ≠ 0 ∧ j ≠ 4 ∧ j ≠ 5 ∧ j ≠ 6) (hj2 : j < 19) : RI (va_up r j v) N K C nt := by
  obtain ⟨hN, hN2, hKn, hK2, hC, hC1, hC2, hn, hnt, hSo, hSK⟩ := h
  have ne : ∀ a, a ≠ j → va_up r j v a = r a := fun a ha => if_neg ha
  exact ⟨(ne _ (by omega)).trans hN, hN2, (ne _ (by omega)).trans hKn, hK2, (ne _ (by omega)).trans hC, hC1, hC2, (ne _ (by omega)).trans hn, hnt, fun k hk => by rw [ne _ (by omega)]; exact hSo k hk, fun i hi => by rw [ne _ (by omega)]; exact hSK i hi⟩
theorem NV.cloud (h : NV o r N K C nt) {j w : Nat} (hj : j < C) (hw : w ≤ 9) : NV (va_up o 1 (va_up (o 1) j (nI w))) (va_up r (9 + j) (nI w)) N K C nt := by
  have h9 := h.C10
  refine ⟨h.1, h.ri.low (by omega) (by omega), h.ro.cloud h.C10 (by omega) _, h.vi.low (by omega) (by omega), fun i hi => ?_⟩
  by_cases e : i = j
  · subst e; exact ⟨w, hw, if_pos rfl⟩
  · rw [va_up_ne _ _ (by omega)]; exact h.cv i hi
theorem NV.lim (h : NV o r N K C nt) {i : Nat} (v : Int32) (hi : i = 1 ∨ i = 2 ∨ i = 3) : NV (dS o i v) (va_up r i v) N K C nt := by
  have h9 := h.C10
  refine ⟨?_, h.ri.low (by omega) (by omega), h.ro.lim (by omega) _, h.vi.low (by omega) (by omega), fun j hj => ?_⟩
  · obtain ⟨h1, h2, h3, h4, h5, h6, h7, h8, h9, h10⟩ := h.1
    have ne : ∀ a, a ≠ i → dS o i v 0 a = o 0 a := fun a ha => by rw [dS_0, if_neg ha]
    exact ⟨(ne _ (by omega)).trans h1, h2, (ne _ (by omega)).trans h3, h4, (ne _ (by omega)).trans h5, h6, h7, (ne _ (by omega)).trans h8, h9, h10⟩
  · rw [va_up_ne _ _ (by omega)]; exact h.cv j hj
end NVF
end CG
/-! a complaint filed -/
section FI
variable {N K C nt : Nat} {o : Nat → Nat → Int32} {r : Nat → Int32}
theorem rFiles_at (r : Nat → Int32) (N : Nat) (pe so an : Int32) (a : Nat) : rFiles r N pe so an a = if a = 6 then r 6 + 1 else if a = 34 + 7 * N + 6 then -1 else if a = 34 + 7 * N + 5 then -1 else if a = 34 + 7 * N + 4 then 0 else if a = 34 + 7 * N + 3 then r 0 else if a = 34 + 7 * N + 2 then an else if a = 34 + 7 * N + 1 then so else if a = 34 + 7 * N then pe else r a := by
  unfold rFiles rFiles7
  simp only [up1]
  rw [if_neg (show ¬ 0 = 34 + 7 * N + 2 by omega), if_neg (show ¬ 0 = 34 + 7 * N + 1 by omega), if_neg (show ¬ 0 = 34 + 7 * N by omega), if_neg (show ¬ 6 = 34 + 7 * N + 6 by omega), if_neg (show ¬ 6 = 34 + 7 * N + 5 by omega), if_neg (show ¬ 6 = 34 + 7 * N + 4 by omega), if_neg (show ¬ 6 = 34 + 7 * N + 3 by omega), if_neg (show ¬ 6 = 34 + 7 * N + 2 by omega), if_neg (show ¬ 6 = 34 + 7 * N + 1 by omega), if_neg (show ¬ 6 = 34 + 7 * N by omega)]
theorem rFiles_ne (r : Nat → Int32) (N : Nat) (pe so an : Int32) {a : Nat} (h6 : a ≠ 6) (h : a < 34 + 7 * N ∨ 34 + 7 * N + 7 ≤ a) : rFiles r N pe so an a = r a := by
  rw [rFiles_at, if_neg h6, if_neg (by omega), if_neg (by omega), if_neg (by omega), if_neg (by omega), if_neg (by omega), if_neg (by omega), if_neg (by omega)]
theorem pileAdd_k (o : Nat → Nat → Int32) (N : Nat) (pe so an nt : Int32) {a : Nat} (h : a = 1 ∨ a = 2 ∨ a = 3) : pileAdd o N pe so an nt a = o a := by
  rcases h with rfl | rfl | rfl <;> rfl
theorem pileAdd_0 (o : Nat → Nat → Int32) (N : Nat) (pe so an nt : Int32) {a : Nat} (h : a ≠ 7) : pileAdd o N pe so an nt 0 a = o 0 a := by
  show va_up (o 0) 7 (nI (N + 1)) a = o 0 a
  exact if_neg h
theorem pileAdd_p (o : Nat → Nat → Int32) (N : Nat) (pe so an nt : Int32) {i a : Nat} (hi : i < 7) (h : a ≠ N) : pileAdd o N pe so an nt (4 + i) a = o (4 + i) a := by
  rcases (by omega : i = 0 ∨ i = 1 ∨ i = 2 ∨ i = 3 ∨ i = 4 ∨ i = 5 ∨ i = 6) with rfl | rfl | rfl | rfl | rfl | rfl | rfl
  · show va_up (o 4) N pe a = o 4 a; exact if_neg h
  · show va_up (o 5) N so a = o 5 a; exact if_neg h
  · show va_up (o 6) N an a = o 6 a; exact if_neg h
  · show va_up (o 7) N nt a = o 7 a; exact if_neg h
  · show va_up (o 8) N 0 a = o 8 a; exact if_neg h
  · show va_up (o 9) N (-1) a = o 9 a; exact if_neg h
  · show va_up (o 10) N (-1) a = o 10 a; exact if_neg h
theorem RO.file (h : RO o r N K C) (hK : K ≤ 5) (hC : C ≤ 10) (pe so an nt : Int32) (hn : r 0 = nt) : RO (pileAdd o N pe so an nt) (rFiles r N pe so an) (N + 1) K C := by
  refine RO.mk ?_ ?_ ?_ ?_ ?_ ?_
  · intro a ha; rw [pileAdd_0 _ _ _ _ _ _ (by omega), rFiles_ne _ _ _ _ _ (by omega) (by omega)]; exact h.i a ha
  · rw [pileAdd_0 _ _ _ _ _ _ (by omega), rFiles_ne _ _ _ _ _ (by omega) (by omega)]; exact h.u
  · intro a ha; rw [pileAdd_k _ _ _ _ _ _ (by omega), rFiles_ne _ _ _ _ _ (by omega) (by omega)]; exact h.c a ha
  · intro a ha; rw [pileAdd_k _ _ _ _ _ _ (by omega), rFiles_ne _ _ _ _ _ (by omega) (by omega)]; exact h.k a ha
  · intro a ha; rw [pileAdd_k _ _ _ _ _ _ (by omega), rFiles_ne _ _ _ _ _ (by omega) (by omega)]; exact h.l a ha
  · intro a ha i hi
    by_cases e : a = N
    · subst e
      rw [rFiles_at, if_neg (by omega)]
      rcases (by omega : i = 0 ∨ i = 1 ∨ i = 2 ∨ i = 3 ∨ i = 4 ∨ i = 5 ∨ i = 6) with rfl | rfl | rfl | rfl | rfl | rfl | rfl
      · show va_up (o 4) a pe a = _
        rw [if_neg (by omega), if_neg (by omega), if_neg (by omega), if_neg (by omega), if_neg (by omega), if_neg (by omega), if_pos (by omega)]; exact if_pos rfl
      · show va_up (o 5) a so a = _
        rw [if_neg (by omega), if_neg (by omega), if_neg (by omega), if_neg (by omega), if_neg (by omega), if_pos (by omega)]; exact if_pos rfl
      · show va_up (o 6) a an a = _
        rw [if_neg (by omega), if_neg (by omega), if_neg (by omega), if_neg (by omega), if_pos (by omega)]; exact if_pos rfl
      · show va_up (o 7) a nt a = _
        rw [if_neg (by omega), if_neg (by omega), if_neg (by omega), if_pos (by omega), hn]; exact if_pos rfl
      · show va_up (o 8) a 0 a = _
        rw [if_neg (by omega), if_neg (by omega), if_pos (by omega)]; exact if_pos rfl
      · show va_up (o 9) a (-1) a = _
        rw [if_neg (by omega), if_pos (by omega)]; exact if_pos rfl
      · show va_up (o 10) a (-1) a = _
        rw [if_pos (by omega)]; exact if_pos rfl
    · rw [pileAdd_p _ _ _ _ _ _ hi e, rFiles_ne _ _ _ _ _ (by omega) (by omega)]
      exact h.p a (by omega) i hi
theorem cntI_last {p : Nat → Bool} {n : Nat} : cntI p (n + 1) 0 0 = if p n then cntI p n 0 0 + 1 else cntI p n 0 0 := by
  unfold cntI
  rw [iter_last, Nat.zero_add]
theorem sumI_last {p : Nat → Bool} {f : Nat → Int32} {n : Nat} : sumI p f (n + 1) 0 0 = if p n then sumI p f n 0 0 + f n else sumI p f n 0 0 := by
  unfold sumI
  rw [iter_last, Nat.zero_add]
theorem cntI_none {p : Nat → Bool} : ∀ {n i : Nat} {x : Int32}, (∀ k, i ≤ k → k < i + n → p k = false) → cntI p n i x = x
  | 0, _, _, _ => rfl
  | n + 1, i, x, h => by
    show cntI p n (i + 1) (if p i then x + 1 else x) = x
    rw [h i (Nat.le_refl _) (by omega), if_neg (by decide)]
    exact cntI_none (fun k h1 h2 => h k (by omega) (by omega))
theorem VI.file (h : VI r N K nt) (hK : K ≤ 5) (hn : r 0 = nI nt) {pe so : Int32} {z : Nat} (hz : 0 < z) (hz9 : z ≤ 9) : VI (rFiles r N pe so (nI z)) (N + 1) K nt := by
  have ne : ∀ k, k < N → ∀ f, f < 7 → rFiles r N pe so (nI z) (34 + 7 * k + f) = r (34 + 7 * k + f) := fun k hk f hf => rFiles_ne _ _ _ _ _ (by omega) (by omega)
  have st : rFiles r N pe so (nI z) (34 + 7 * N + 4) = 0 := by rw [rFiles_at, if_neg (by omega), if_neg (by omega), if_neg (by omega), if_pos rfl]
  refine VI.mk ?_ ?_ ?_ ?_ ?_ ?_ ?_
  · intro j hj; rw [rFiles_ne _ _ _ _ _ (by omega) (by omega)]; exact h.oil j hj
  · intro j hj
    rw [rFiles_ne _ _ _ _ _ (by omega) (by omega), h.ans j hj, cntI_last, st, if_neg (by simp)]
    exact cntI_congr (fun k _ hk => by rw [ne k (by omega) 4 (by omega), ne k (by omega) 6 (by omega)])
  · rw [rFiles_ne _ _ _ _ _ (by omega) (by omega), h.com, sumI_last, st, if_neg (by simp)]
    exact sumI_congr (fun k _ hk => by rw [ne k (by omega) 4 (by omega)]) (fun k _ hk => by rw [ne k (by omega) 2 (by omega)])
  · intro k hk
    by_cases e : k = N
    · subst e; exact ⟨z, hz, hz9, by rw [rFiles_at, if_neg (by omega), if_neg (by omega), if_neg (by omega), if_neg (by omega), if_neg (by omega), if_pos rfl]⟩
    · rw [ne k (by omega) 2 (by omega)]; exact h.ang k (by omega)
  · intro k hk
    by_cases e : k = N
    · subst e; exact ⟨0, by omega, st⟩
    · rw [ne k (by omega) 4 (by omega)]; exact h.st k (by omega)
  · intro k hk
    by_cases e : k = N
    · subst e; exact Or.inl (by rw [rFiles_at, if_neg (by omega), if_pos rfl])
    · rw [ne k (by omega) 6 (by omega)]; exact h.by_ k (by omega)
  · intro k hk
    by_cases e : k = N
    · subst e
      exact ⟨nt, Nat.le_refl _, by rw [rFiles_at, if_neg (by omega), if_neg (by omega), if_neg (by omega), if_neg (by omega), if_pos rfl]; exact hn, fun _ => by omega⟩
    · obtain ⟨f, h1, h2, h3⟩ := h.fl k (by omega)
      exact ⟨f, h1, by rw [ne k (by omega) 3 (by omega)]; exact h2, fun g => h3 (by rw [ne k (by omega) 4 (by omega)] at g; exact g)⟩
theorem NV.file (h : NV o r N K C nt) (hN : N < 24) {pe : Int32} {q z : Nat} (hq : q < 4) (hz : 0 < z) (hz9 : z ≤ 9) : NV (pileAdd o N pe (nI q) (nI z) (o 0 0)) (rFiles r N pe (nI q) (nI z)) (N + 1) K C nt := by
  have h9 := h.C10
  have h8 := h.K5
  refine ⟨?_, ?_, ?_, h.vi.file h.K5 h.r0 hz hz9, fun j hj => ?_⟩
  · obtain ⟨h1, h2, h3, h4, h5, h6, h7, h8, h9, h10⟩ := h.1
    refine ⟨show va_up (o 0) 7 (nI (N + 1)) 7 = nI (N + 1) from if_pos rfl, hN, ?_, h4, ?_, h6, h7, ?_, h9, h10⟩
    · rw [pileAdd_0 _ _ _ _ _ _ (by omega)]; exact h3
    · rw [pileAdd_0 _ _ _ _ _ _ (by omega)]; exact h5
    · rw [pileAdd_0 _ _ _ _ _ _ (by omega)]; exact h8
  · refine ⟨?_, hN, ?_, h.K5, ?_, h.C0, h.C10, ?_, h.nt18, fun k hk => ?_, fun j hj => ?_⟩
    · rw [rFiles_at, if_pos rfl, h.r6]; exact nI_1 _
    · rw [rFiles_ne _ _ _ _ _ (by omega) (by omega)]; exact h.r5
    · rw [rFiles_ne _ _ _ _ _ (by omega) (by omega)]; exact h.r4
    · rw [rFiles_ne _ _ _ _ _ (by omega) (by omega)]; exact h.r0
    · by_cases e : k = N
      · subst e; exact ⟨q, hq, by rw [rFiles_at, if_neg (by omega), if_neg (by omega), if_neg (by omega), if_neg (by omega), if_neg (by omega), if_neg (by omega), if_pos rfl]⟩
      · rw [rFiles_ne _ _ _ _ _ (by omega) (by omega)]; exact h.so k (by omega)
    · rw [rFiles_ne _ _ _ _ _ (by omega) (by omega)]; exact h.sk j hj
  · rw [h.o0]; exact h.ro.file h.K5 h.C10 _ _ _ _ h.r0
  · rw [rFiles_ne _ _ _ _ _ (by omega) (by omega)]; exact h.cv j hj
end FI
/-! a clerk added -/
section CK
variable {N K C nt : Nat} {o : Nat → Nat → Int32} {r : Nat → Int32}
theorem rAddsClerk_at (r : Nat → Int32) (K : Nat) (sk oi : Int32) (a : Nat) : rAddsClerk r K sk oi a = if a = 5 then r 5 + 1 else if a = 19 + 3 * K + 2 then 0 else if a = 19 + 3 * K + 1 then oi else if a = 19 + 3 * K then sk else r a := by
  unfold rAddsClerk
  simp only [up1]
  rw [if_neg (show ¬ 5 = 19 + 3 * K + 2 by omega), if_neg (show ¬ 5 = 19 + 3 * K + 1 by omega), if_neg (show ¬ 5 = 19 + 3 * K by omega)]
theorem rAddsClerk_ne (r : Nat → Int32) (K : Nat) (sk oi : Int32) {a : Nat} (h5 : a ≠ 5) (h : a < 19 + 3 * K ∨ 19 + 3 * K + 3 ≤ a) : rAddsClerk r K sk oi a = r a := by
  rw [rAddsClerk_at, if_neg h5, if_neg (by omega), if_neg (by omega), if_neg (by omega)]
theorem RO.clerk (h : RO o r N K C) (hK : K < 5) (hC : C ≤ 10) (sk oi : Int32) : RO (staffAdd o K sk oi) (rAddsClerk r K sk oi) N (K + 1) C := by
  refine RO.mk ?_ ?_ ?_ ?_ ?_ ?_
  · intro a ha; rw [staffAdd_0 (by omega), rAddsClerk_ne _ _ _ _ (by omega) (by omega)]; exact h.i a ha
  · rw [staffAdd_0 (by omega), rAddsClerk_ne _ _ _ _ (by omega) (by omega)]; exact h.u
  · intro a ha; rw [rAddsClerk_ne _ _ _ _ (by omega) (by omega)]; exact h.c a ha
  · intro a ha
    show va_up (o 2) K sk a = _
    by_cases e : a = K
    · subst e; rw [rAddsClerk_at, if_neg (by omega), if_neg (by omega), if_neg (by omega), if_pos rfl]; exact if_pos rfl
    · rw [va_up_ne _ _ e, rAddsClerk_ne _ _ _ _ (by omega) (by omega)]; exact h.k a (by omega)
  · intro a ha
    show va_up (o 3) K oi a = _
    by_cases e : a = K
    · subst e; rw [rAddsClerk_at, if_neg (by omega), if_neg (by omega), if_pos rfl]; exact if_pos rfl
    · rw [va_up_ne _ _ e, rAddsClerk_ne _ _ _ _ (by omega) (by omega)]; exact h.l a (by omega)
  · intro a ha i hi
    rw [rAddsClerk_ne _ _ _ _ (by omega) (by omega), ← h.p a ha i hi]
    show va_up (va_up (va_up o 0 _) 2 _) 3 _ (4 + i) a = _
    rw [va_up_ne _ _ (by omega), va_up_ne _ _ (by omega), va_up_ne _ _ (by omega)]
theorem nI_ne {a b : Nat} (ha : a < 2 ^ 31) (hb : b < 2 ^ 31) (h : a ≠ b) : ¬ nI a = nI b := fun e => h (by
  have := congrArg Int32.toInt e
  rw [nI_toInt ha, nI_toInt hb] at this
  omega)
theorem nI_nm1 {a : Nat} (ha : a < 2 ^ 31) : ¬ (-1 : Int32) = nI a := fun e => by
  have := congrArg Int32.toInt e
  rw [nI_toInt ha, show (-1 : Int32).toInt = -1 from by decide] at this
  omega
theorem NV.clerk (h : NV o r N K C nt) (hK : K < 5) {S w : Nat} (hS : S ≤ 9) (hw : w ≤ 99) : NV (staffAdd o K (nI S) (nI w)) (rAddsClerk r K (nI S) (nI w)) N (K + 1) C nt := by
  have h9 := h.C10
  have ne : ∀ k f, rAddsClerk r K (nI S) (nI w) (34 + 7 * k + f) = r (34 + 7 * k + f) := fun k f => rAddsClerk_ne _ _ _ _ (by omega) (by omega)
  refine ⟨?_, ?_, h.ro.clerk hK h.C10 _ _, ?_, fun j hj => ?_⟩
  · obtain ⟨h1, h2, h3, h4, h5, h6, h7, h8, h9, h10⟩ := h.1
    refine ⟨(staffAdd_0 (by omega)).trans h1, h2, show va_up (o 0) 5 (nI (K + 1)) 5 = nI (K + 1) from if_pos rfl, hK, (staffAdd_0 (by omega)).trans h5, h6, h7, (staffAdd_0 (by omega)).trans h8, h9, fun j hj => ?_⟩
    show ∃ S', S' ≤ 9 ∧ va_up (o 2) K (nI S) j = nI S'
    by_cases e : j = K
    · subst e; exact ⟨S, hS, if_pos rfl⟩
    · rw [va_up_ne _ _ e]; exact h10 j (by omega)
  · refine ⟨?_, h.N24, ?_, hK, ?_, h.C0, h.C10, ?_, h.nt18, fun k hk => ?_, fun j hj => ?_⟩
    · rw [rAddsClerk_ne _ _ _ _ (by omega) (by omega)]; exact h.r6
    · rw [rAddsClerk_at, if_pos rfl, h.r5]; exact nI_1 _
    · rw [rAddsClerk_ne _ _ _ _ (by omega) (by omega)]; exact h.r4
    · rw [rAddsClerk_ne _ _ _ _ (by omega) (by omega)]; exact h.r0
    · rw [ne k 1]; exact h.so k hk
    · by_cases e : j = K
      · subst e; exact ⟨S, hS, by rw [rAddsClerk_at, if_neg (by omega), if_neg (by omega), if_neg (by omega), if_pos rfl]⟩
      · rw [rAddsClerk_ne _ _ _ _ (by omega) (by omega)]; exact h.sk j (by omega)
  · refine VI.mk ?_ ?_ ?_ ?_ ?_ ?_ ?_
    · intro j hj
      by_cases e : j = K
      · subst e; exact ⟨w, hw, by rw [rAddsClerk_at, if_neg (by omega), if_neg (by omega), if_pos rfl]⟩
      · rw [rAddsClerk_ne _ _ _ _ (by omega) (by omega)]; exact h.vi.oil j (by omega)
    · intro j hj
      by_cases e : j = K
      · subst e
        rw [rAddsClerk_at, if_neg (by omega), if_pos rfl]
        refine (cntI_none (fun k _ hk => ?_)).symm
        rw [ne k 4, ne k 6]
        rcases h.vi.by_ k (by omega) with g | ⟨i, g1, g2⟩
        · rw [g, decide_eq_false (nI_nm1 (by omega)), Bool.and_false]
        · rw [g2, decide_eq_false (nI_ne (by omega) (by omega) (by omega)), Bool.and_false]
      · rw [rAddsClerk_ne _ _ _ _ (by omega) (by omega), h.vi.ans j (by omega)]
        exact cntI_congr (fun k _ hk => by rw [ne k 4, ne k 6])
    · rw [rAddsClerk_ne _ _ _ _ (by omega) (by omega), h.vi.com]
      exact sumI_congr (fun k _ _ => by rw [ne k 4]) (fun k _ _ => by rw [ne k 2])
    · intro k hk; rw [ne k 2]; exact h.vi.ang k hk
    · intro k hk; rw [ne k 4]; exact h.vi.st k hk
    · intro k hk; rw [ne k 6]
      rcases h.vi.by_ k hk with g | ⟨i, g1, g2⟩
      · exact Or.inl g
      · exact Or.inr ⟨i, by omega, g2⟩
    · intro k hk
      obtain ⟨f, h1, h2, h3⟩ := h.vi.fl k hk
      exact ⟨f, h1, by rw [ne k 3]; exact h2, fun g => h3 (by rw [ne k 4] at g; exact g)⟩
  · rw [rAddsClerk_ne _ _ _ _ (by omega) (by omega)]; exact h.cv j hj
end CK
