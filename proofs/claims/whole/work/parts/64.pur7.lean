/-! the two sides alike: a night -/
def CV (r : Nat → Int32) (C : Nat) : Prop := ∀ j, j < C → ∃ z, z ≤ 9 ∧ r (9 + j) = nI z
section NR
variable {N K C nt : Nat}
theorem cost_nat (L z : Nat) (hL : L ≤ 14) (hz : z ≤ 9) : ∃ c, c < 2 ^ 18 ∧ (6 : Int32) - nI L * (10 - nI z) / 10 / 3 = nI c := by
  have : ∀ L, L < 15 → ∀ z, z < 10 → (6 : Int32) - nI L * (10 - nI z) / 10 / 3 = nI ((6 : Int32) - nI L * (10 - nI z) / 10 / 3).toNatClampNeg ∧ ((6 : Int32) - nI L * (10 - nI z) / 10 / 3).toNatClampNeg < 2 ^ 18 := by decide +kernel
  obtain ⟨h1, h2⟩ := this L (by omega) z (by omega)
  exact ⟨_, h2, h1⟩
theorem bitsC_R {o : Nat → Nat → Int32} {r : Nat → Int32} (h : RO o r N K C) (hC : 0 < C) : bitsC C nt o = maskI (fun q => justB q (r 1) (r 2) (r 3) nt (r (9 + nt % C))) 4 0 0 := by
  rw [bitsC, h.i 1 (by decide), h.i 2 (by decide), h.i 3 (by decide), h.c _ (Nat.mod_lt _ hC)]
theorem clerks_R {o : Nat → Nat → Int32} {r : Nat → Int32} (hI : RI r N K C nt) (h : RO o r N K C) (hv : VI r N K nt) (hcv : CV r C) :
    RO (clerksNightC N K C nt o).2 (iter (rClerks N C nt) K 0 r) N K C ∧ VI (iter (rClerks N C nt) K 0 r) N K nt ∧ KR r (iter (rClerks N C nt) K 0 r) ∧ (clerksNightC N K C nt o).1 + cntR r 1 N = cntR (iter (rClerks N C nt) K 0 r) 1 N := by
  obtain ⟨-, -, -, hK, -, hC0, hC, hn, hnt, hs, -⟩ := hI
  have hKK := KR.clerks (N := N) (C := C) (nt := nt) (n := K) (i := 0) (r := r) (r' := r) (by omega) KR.rfl
  have hcost : costC C nt o = costR C nt r := costC_R h hC0 nt
  have hbits := bitsC_R (nt := nt) h hC0
  obtain ⟨z, hz, ez⟩ := hcv _ (Nat.mod_lt nt hC0)
  obtain ⟨c, hc, ec⟩ := cost_nat (lightN nt) z (lightN_le nt) hz
  have ec : costR C nt r = nI c := by rw [costR, visI, ez]; exact ec
  have := iter_rel (f := clerksC N (bitsC C nt o) (costC C nt o)) (g := rClerks N C nt) (fun _ (s : Int32 × (Nat → Nat → Int32)) r' => RO s.2 r' N K C ∧ VI r' N K nt ∧ KR r r' ∧ s.1 + cntR r 1 N = cntR r' 1 N) (n := K) (i := 0) (x := (0, o)) (y := r) ⟨h, hv, KR.rfl, Int32.zero_add _⟩ (by
    rintro j s r' - hj ⟨g1, g2, g3, g4⟩
    have hj : j < K := by omega
    have hcR : costR C nt r' = nI c := by rw [← ec, costR, costR, g3.2.1 _ (by omega) (by have := Nat.mod_lt nt hC0; omega)]
    have hb' : bitsC C nt o = bitsC C nt s.2 := by rw [hbits, bitsC_R g1 hC0, g3.1 1 (by decide), g3.1 2 (by decide), g3.1 3 (by decide), g3.2.1 _ (by omega) (by have := Nat.mod_lt nt hC0; omega)]
    have hs' : ∀ k, k < N → ∃ q, q < 4 ∧ r' (34 + 7 * k + 1) = nI q := fun k hk => by rw [(g3.2.2.2 k).2.1]; exact hs k hk
    have w := work_R (N := N) (C := C) (nt := nt) (j := j) (c := c) (bits := bitsC C nt o) hK hC0 hC hnt hj hc (1 + s.2 2 j / 3).toNatClampNeg 0 s.2 r' g1 g2 ((g3.1 0 (by decide)).trans hn) hs' hb'
    have e : rClerks N C nt j r' = rWorks N C nt j (nI c) (1 + s.2 2 j / 3).toNatClampNeg r' := by rw [rClerks, hcR, g1.k j hj]
    have e2 : costC C nt o = nI c := hcost.trans ec
    rw [e]
    unfold clerksC
    rw [e2]
    refine ⟨w.1, w.2.1, KR.works (by omega) g3, ?_⟩
    have q := w.2.2
    rw [Int32.zero_add] at q
    rw [← q, ← g4]
    show s.1 + (workC N j (bitsC C nt o) (nI c) (1 + s.2 2 j / 3).toNatClampNeg 0 s.2).1 + cntR r 1 N = _
    rw [Int32.add_comm s.1, Int32.add_assoc])
  exact ⟨this.1, this.2.1, hKK, this.2.2.2⟩
theorem night_R {o : Nat → Nat → Int32} {r : Nat → Int32} (hI : RI r N K C nt) (hb : nt + 1 < 2 ^ 18) (h : RO o r N K C) (hv : VI r N K nt) (hcv : CV r C) :
    RO (nightC N K C nt o).2 (rEnds N K C nt r) N K C ∧ VI (rEnds N K C nt r) N K (nt + 1) ∧ (nightC N K C nt o).1 = cntR (rEnds N K C nt r) 1 N - cntR r 1 N := by
  have hI' := hI
  obtain ⟨-, -, -, hK, -, hC0, hC, hn, hnt, hs, -⟩ := hI'
  obtain ⟨c1, c2, c3, c4⟩ := clerks_R hI h hv hcv
  have hr0 : (iter (rClerks N C nt) K 0 r) 0 + 1 = nI (nt + 1) := by
    rw [c3.1 0 (by decide), hn]
    apply Int32.toInt_inj.mp
    rw [show (1 : Int32) = nI 1 from rfl, Int32.toInt_add, nI_toInt (by omega), nI_toInt (by omega), nI_toInt (by omega), Int.bmod_def]
    split <;> omega
  have hne : ∀ a, a ≠ 0 → rEnds2 N K C nt r a = iter (rClerks N C nt) K 0 r a := fun a ha => by rw [rEnds2, up1, if_neg ha]
  have d1 : RO (va_up (clerksNightC N K C nt o).2 0 (va_up ((clerksNightC N K C nt o).2 0) 0 (nI (nt + 1)))) (rEnds2 N K C nt r) N K C := by
    rw [rEnds2, hr0]; exact c1.lim (by decide) _
  have d2 : VI (rEnds2 N K C nt r) N K nt := by
    refine VI.mk ?_ ?_ ?_ ?_ ?_ ?_ ?_
    · intro j hj; rw [hne _ (by omega)]; exact c2.oil j hj
    · intro j hj; rw [hne _ (by omega), c2.ans j hj]; exact cntI_congr (fun k _ _ => by rw [hne _ (by omega), hne _ (by omega)])
    · rw [hne _ (by omega), c2.com]; exact sumI_congr (fun k _ _ => by rw [hne _ (by omega)]) (fun k _ _ => by rw [hne _ (by omega)])
    · intro k hk; rw [hne _ (by omega)]; exact c2.ang k hk
    · intro k hk; rw [hne _ (by omega)]; exact c2.st k hk
    · intro k hk; rw [hne _ (by omega)]; exact c2.by_ k hk
    · intro k hk
      obtain ⟨f, h1, h2, h3⟩ := c2.fl k hk
      exact ⟨f, h1, by rw [hne _ (by omega)]; exact h2, fun g => h3 (by rw [hne _ (by omega)] at g; exact g)⟩
  have d3 : cntR (rEnds2 N K C nt r) 1 N = cntR (iter (rClerks N C nt) K 0 r) 1 N := cntI_congr (fun k _ _ => by rw [hne _ (by omega)])
  have d4 : rEnds2 N K C nt r 0 = nI (nt + 1) := by rw [rEnds2, up1, if_pos rfl, hr0]
  have := iter_rel (f := growC (nI (nt + 1))) (g := rGrows) (fun _ (s : Nat → Nat → Int32) r' => RO s r' N K C ∧ VI r' N K nt ∧ r' 0 = nI (nt + 1) ∧ cntR r' 1 N = cntR (rEnds2 N K C nt r) 1 N) (n := N) (i := 0) (x := _) (y := rEnds2 N K C nt r) ⟨d1, d2, d4, rfl⟩ (by
    rintro k s r' - hk ⟨g1, g2, g3, g4⟩
    have w := grow_R (k := k) hK hC (by omega) g1 g2 g3
    exact ⟨w.1, w.2.1, w.2.2.1, w.2.2.2.trans g4⟩)
  obtain ⟨t1, t2, t3, t4⟩ := this
  refine ⟨t1, ?_, ?_⟩
  · exact VI.mk t2.oil t2.ans t2.com t2.ang t2.st t2.by_ (RWt.all hI hv.fl)
  · show (clerksNightC N K C nt o).1 = cntR (iter rGrows N 0 (rEnds2 N K C nt r)) 1 N - cntR r 1 N
    rw [t4, d3, ← c4, Int32.add_sub_cancel]
end NR
