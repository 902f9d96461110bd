/-! the two sides alike: nights -/
def NV (o : Nat → Nat → Int32) (r : Nat → Int32) (N K C nt : Nat) : Prop := OI o N K C nt ∧ RI r N K C nt ∧ RO o r N K C ∧ VI r N K nt ∧ CV r C
section NN
variable {N K C nt : Nat}
theorem rGrows_low {k a : Nat} {r : Nat → Int32} (ha : a < 34) : rGrows k r a = r a := by
  have key : ∀ B : Nat → Int32, B a = r a → (if r 0 - r (34 + 7 * k + 3) = 56 then rCloses B k 3 (-1) else B) a = r a := by
    intro B hB
    split
    · rw [rCloses_ne _ _ _ _ (by omega) (by omega) (by omega), hB]
    · exact hB
  unfold rGrows rGrow
  split
  · refine key _ ?_
    split
    · rw [up1, if_neg (by omega)]
    · rfl
  · rfl
theorem rEnds_cloud {r : Nat → Int32} {a : Nat} (hK : K ≤ 5) (h1 : 9 ≤ a) (h2 : a < 19) : rEnds N K C nt r a = r a := by
  have := iter_inv (f := rGrows) (fun _ (s : Nat → Int32) => s a = r a) (n := N) (i := 0) (x := rEnds2 N K C nt r) (by
    rw [rEnds2, up1, if_neg (by omega)]
    exact (KR.clerks (N := N) (C := C) (nt := nt) (n := K) (i := 0) (r := r) (r' := r) (by omega) KR.rfl).2.1 a h1 h2) (fun k s _ _ g => (rGrows_low (by omega)).trans g)
  exact this
theorem rGrows_filed {k j : Nat} {r : Nat → Int32} : rGrows k r (34 + 7 * j + 3) = r (34 + 7 * j + 3) := by
  have key : ∀ B : Nat → Int32, B (34 + 7 * j + 3) = r (34 + 7 * j + 3) → (if r 0 - r (34 + 7 * k + 3) = 56 then rCloses B k 3 (-1) else B) (34 + 7 * j + 3) = r (34 + 7 * j + 3) := by
    intro B hB
    split
    · rw [rCloses_ne _ _ _ _ (by omega) (by omega) (by omega), hB]
    · exact hB
  unfold rGrows rGrow
  split
  · refine key _ ?_
    split
    · rw [up1, if_neg (by omega)]
    · rfl
  · rfl
theorem rEnds_filed {r : Nat → Int32} {j : Nat} (hK : K ≤ 5) : rEnds N K C nt r (34 + 7 * j + 3) = r (34 + 7 * j + 3) := by
  have := iter_inv (f := rGrows) (fun _ (s : Nat → Int32) => s (34 + 7 * j + 3) = r (34 + 7 * j + 3)) (n := N) (i := 0) (x := rEnds2 N K C nt r) (by
    rw [rEnds2, up1, if_neg (by omega)]
    exact ((KR.clerks (N := N) (C := C) (nt := nt) (n := K) (i := 0) (r := r) (r' := r) (by omega) KR.rfl).2.2.2 j).2.2.2) (fun k s _ _ g => rGrows_filed.trans g)
  exact this
theorem NV.night {o : Nat → Nat → Int32} {r : Nat → Int32} (h : NV o r N K C nt) (hb : nt + 1 < 2 ^ 18) : NV (nightC N K C nt o).2 (rEnds N K C nt r) N K C (nt + 1) ∧ (nightC N K C nt o).1 = cntR (rEnds N K C nt r) 1 N - cntR r 1 N := by
  obtain ⟨h1, h2, h3, h4, h5⟩ := h
  obtain ⟨g1, g2, g3⟩ := night_R h2 hb h3 h4 h5
  refine ⟨⟨h1.night hb, h2.ends hb, g1, g2, fun j hj => ?_⟩, g3⟩
  have hC : C ≤ 10 := h2.2.2.2.2.2.2.1
  rw [rEnds_cloud h2.2.2.2.1 (by omega) (by omega)]
  exact h5 j hj
theorem NV.ends {o : Nat → Nat → Int32} {r : Nat → Int32} (h : NV o r N K C nt) {n : Nat} (hb : nt + n < 2 ^ 18) : NV (iter (endsC N K C nt) n 0 (0, o)).2 (iter (endsI N K C nt) n 0 (0, r)).2 N K C (nt + n) ∧ (iter (endsC N K C nt) n 0 (0, o)).1 = (iter (endsI N K C nt) n 0 (0, r)).1 := by
  have := iter_rel (f := endsC N K C nt) (g := endsI N K C nt) (fun k (s : Int32 × (Nat → Nat → Int32)) (t : Int32 × (Nat → Int32)) => NV s.2 t.2 N K C (nt + k) ∧ s.1 = t.1) (n := n) (i := 0) (x := (0, o)) (y := (0, r)) ⟨h, rfl⟩ (by
    rintro k s t - hk ⟨g1, g2⟩
    obtain ⟨q1, q2⟩ := g1.night (by omega)
    refine ⟨q1, ?_⟩
    show s.1 + (nightC N K C (nt + k) s.2).1 = t.1 + (cntR (rEnds N K C (nt + k) t.2) 1 N - cntR t.2 1 N)
    rw [q2, g2])
  rw [Nat.zero_add] at this
  exact this
theorem until_R {j fl : Nat} (hj : j < N) : ∀ (n m nt : Nat) (o : Nat → Nat → Int32) (r : Nat → Int32), NV o r N K C nt → nt + n < 2 ^ 18 → nt + m < 2 ^ 18 → r (34 + 7 * j + 3) = nI fl → fl < 2 ^ 18 → (r (34 + 7 * j + 4) = 0 → fl + 56 ≤ nt + n ∧ fl + 56 ≤ nt + m) →
    (cUntil N K C j n nt o).1 = (rUntil N K C j m nt r).1 ∧ ∃ nt', NV (cUntil N K C j n nt o).2 (rUntil N K C j m nt r).2 N K C nt' := by
  intro n
  induction n with
  | zero =>
    intro m nt o r h hb1 hb2 hf hfl hw
    have h0 : ¬ r (34 + 7 * j + 4) = 0 := by
      intro g
      obtain ⟨f, f1, f2, f3⟩ := h.2.2.2.1.fl j hj
      have := hw g
      have e : f = fl := by
        have := congrArg Int32.toInt (f2.symm.trans hf)
        have := h.2.1.2.2.2.2.2.2.2.2.1
        rw [nI_toInt (by omega), nI_toInt (by omega)] at *
        omega
      have := f3 g
      omega
    rw [rUntil_done h0]
    exact ⟨rfl, nt, h⟩
  | succ n ih =>
    intro m nt o r h hb1 hb2 hf hfl hw
    have e8 : o 8 j = r (34 + 7 * j + 4) := h.2.2.1.p j hj 4 (by decide)
    by_cases h0 : r (34 + 7 * j + 4) = 0
    · obtain ⟨f, f1, f2, f3⟩ := h.2.2.2.1.fl j hj
      have hw' := hw h0
      have e : f = fl := by
        have := congrArg Int32.toInt (f2.symm.trans hf)
        rw [nI_toInt (by omega), nI_toInt (by omega)] at this
        omega
      have := f3 h0
      cases m with
      | zero => omega
      | succ m =>
        obtain ⟨g1, g2⟩ := h.night (by omega)
        have hfl' : rEnds N K C nt r (34 + 7 * j + 3) = nI fl := (rEnds_filed h.2.1.2.2.2.1).trans hf
        obtain ⟨q1, q2⟩ := ih m (nt + 1) _ _ g1 (by omega) (by omega) hfl' hfl (fun _ => by omega)
        rw [cUntil_step (e8.trans h0), rUntil_step h0]
        exact ⟨by rw [q1], q2⟩
    · rw [rUntil_done h0, cUntil_done (by rw [e8]; exact h0)]
      exact ⟨rfl, nt, h⟩
end NN
