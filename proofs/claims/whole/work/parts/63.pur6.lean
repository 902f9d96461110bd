/-! the two sides alike: complaints grow older -/
section GR
variable {N K C nt : Nat}
theorem sumI_congr2 {p q : Nat → Bool} {f g : Nat → Int32} {n i : Nat} {x : Int32} (h : ∀ k, i ≤ k → k < i + n → p k = q k) (hf : ∀ k, i ≤ k → k < i + n → q k = true → f k = g k) : sumI p f n i x = sumI q g n i x :=
  iter_congr (fun k y h1 h2 => by
    rw [h k h1 h2]
    by_cases e : q k = true
    · rw [hf k h1 h2 e]
    · rw [if_neg e, if_neg e])
theorem VI.anger {r : Nat → Int32} (h : VI r N K nt) (hK : K ≤ 5) {q z : Nat} (h0 : r (34 + 7 * q + 4) = 0) (hz : 0 < z) (hz9 : z ≤ 9) : VI (va_up r (34 + 7 * q + 2) (nI z)) N K nt := by
  have hne : ∀ a, a ≠ 34 + 7 * q + 2 → va_up r (34 + 7 * q + 2) (nI z) a = r a := fun a h1 => by rw [up1, if_neg h1]
  refine VI.mk ?_ ?_ ?_ ?_ ?_ ?_ ?_
  · intro j hj; rw [hne _ (by omega)]; exact h.oil j hj
  · intro j hj
    rw [hne _ (by omega), h.ans j hj]
    exact cntI_congr (fun k _ _ => by rw [hne _ (by omega), hne _ (by omega)])
  · rw [hne _ (by omega), h.com]
    refine sumI_congr2 (fun k _ _ => by rw [hne _ (by omega)]) (fun k _ _ e => ?_)
    rw [hne _ (by omega)] at e
    rw [hne _ (by rintro g; rw [show k = q by omega, h0] at e; exact absurd e (by decide))]
  · intro k hk
    by_cases e : k = q
    · subst e; exact ⟨z, hz, hz9, by rw [up1, if_pos rfl]⟩
    · rw [hne _ (by omega)]; exact h.ang k hk
  · intro k hk; rw [hne _ (by omega)]; exact h.st k hk
  · intro k hk; rw [hne _ (by omega)]; exact h.by_ k hk
  · intro k hk
    obtain ⟨f, h1, h2, h3⟩ := h.fl k hk
    exact ⟨f, h1, by rw [hne _ (by omega)]; exact h2, fun g => h3 (by rw [hne _ (by omega)] at g; exact g)⟩
theorem anger_min : ∀ z, 0 < z → z ≤ 9 → (if nI z + 1 < 9 then nI z + 1 else (9 : Int32)) = nI (if z < 9 then z + 1 else 9) ∧ (if 9 < nI z + 1 then (9 : Int32) else nI z + 1) = nI (if z < 9 then z + 1 else 9) := by
  have : ∀ z, z < 10 → 0 < z → (if nI z + 1 < 9 then nI z + 1 else (9 : Int32)) = nI (if z < 9 then z + 1 else 9) ∧ (if 9 < nI z + 1 then (9 : Int32) else nI z + 1) = nI (if z < 9 then z + 1 else 9) := by decide +kernel
  exact fun z h1 h2 => this z (by omega) h1
theorem grow_R {k : Nat} {o : Nat → Nat → Int32} {r : Nat → Int32} (hK : K ≤ 5) (hC : C ≤ 10) (hk : k < N) (h : RO o r N K C) (hv : VI r N K nt) (hn : r 0 = nI (nt + 1)) :
    RO (growC (nI (nt + 1)) k o) (rGrows k r) N K C ∧ VI (rGrows k r) N K nt ∧ rGrows k r 0 = nI (nt + 1) ∧ cntR (rGrows k r) 1 N = cntR r 1 N := by
  have e8 : o 8 k = r (34 + 7 * k + 4) := h.p k hk 4 (by decide)
  have e7 : o 7 k = r (34 + 7 * k + 3) := h.p k hk 3 (by decide)
  have e6 : o 6 k = r (34 + 7 * k + 2) := h.p k hk 2 (by decide)
  by_cases h0 : r (34 + 7 * k + 4) = 0
  · unfold growC rGrows rGrow
    rw [e8, if_pos h0, if_pos h0, e7, e6, hn]
    obtain ⟨z, hz, hz9, ez⟩ := hv.ang k hk
    obtain ⟨a1, a2⟩ := anger_min z hz hz9
    rw [ez, a1, a2]
    generalize hz' : (if z < 9 then z + 1 else 9) = z'
    have hz1 : 0 < z' := by rw [← hz']; split <;> omega
    have hz2 : z' ≤ 9 := by rw [← hz']; split <;> omega
    have key : ∀ (B : Nat → Nat → Int32) (B' : Nat → Int32), RO B B' N K C → VI B' N K nt → B' 0 = nI (nt + 1) → cntR B' 1 N = cntR r 1 N → B' (34 + 7 * k + 4) = 0 →
        RO (if nI (nt + 1) - r (34 + 7 * k + 3) = 56 then pileClose B k 3 (nI (nt + 1)) (-1) else B) (if nI (nt + 1) - r (34 + 7 * k + 3) = 56 then rCloses B' k 3 (-1) else B') N K C ∧ VI (if nI (nt + 1) - r (34 + 7 * k + 3) = 56 then rCloses B' k 3 (-1) else B') N K nt ∧ (if nI (nt + 1) - r (34 + 7 * k + 3) = 56 then rCloses B' k 3 (-1) else B') 0 = nI (nt + 1) ∧ cntR (if nI (nt + 1) - r (34 + 7 * k + 3) = 56 then rCloses B' k 3 (-1) else B') 1 N = cntR r 1 N := by
      intro B B' g1 g2 g3 g4 g5
      split
      · exact ⟨g1.close hK hC k 3 (-1) _ g3, g2.close (s := 3) hK hk g5 (Or.inr rfl) (Or.inl rfl), by rw [rCloses_ne _ _ _ _ (by omega) (by omega) (by omega)]; exact g3, (cntR_close (by decide) g5).trans g4⟩
      · exact ⟨g1, g2, g3, g4⟩
    refine key _ _ ?_ ?_ ?_ ?_ ?_
    · split
      · exact h.pile hK hC (i := 2) (by decide) _
      · exact h
    · split
      · exact hv.anger hK h0 hz1 hz2
      · exact hv
    · split
      · rw [up1, if_neg (by omega)]; exact hn
      · exact hn
    · split
      · exact cntI_congr (fun j _ _ => by rw [up1, if_neg (by omega)])
      · rfl
    · split
      · rw [up1, if_neg (by omega)]; exact h0
      · exact h0
  · unfold growC rGrows
    rw [e8, if_neg h0, if_neg h0]
    exact ⟨h, hv, hn, rfl⟩
end GR
