/-! the two sides alike: one number set -/
section RS
variable {o : Nat → Nat → Int32} {r : Nat → Int32} {N K C : Nat}
theorem up2 (o : Nat → Nat → Int32) (i j : Nat) (v : Int32) (a b : Nat) : va_up o i (va_up (o i) j v) a b = if a = i ∧ b = j then v else o a b := by
  by_cases h : a = i
  · subst h
    by_cases h2 : b = j
    · subst h2; simp [va_up]
    · simp [va_up, h2]
  · simp [va_up, h]
theorem up1 (r : Nat → Int32) (i : Nat) (v : Int32) (a : Nat) : va_up r i v a = if a = i then v else r a := rfl
theorem RO.pile (h : RO o r N K C) (hK : K ≤ 5) (hC : C ≤ 10) {i j : Nat} (hi : i < 7) (v : Int32) : RO (va_up o (4 + i) (va_up (o (4 + i)) j v)) (va_up r (34 + 7 * j + i) v) N K C := RO.mk
  (i := fun a ha => by rw [up2, up1, if_neg (by omega), if_neg (by omega)]; exact h.i a ha)
  (u := by rw [up2, up1, if_neg (by omega), if_neg (by omega)]; exact h.u)
  (c := fun a ha => by rw [up2, up1, if_neg (by omega), if_neg (by omega)]; exact h.c a ha)
  (k := fun a ha => by rw [up2, up1, if_neg (by omega), if_neg (by omega)]; exact h.k a ha)
  (l := fun a ha => by rw [up2, up1, if_neg (by omega), if_neg (by omega)]; exact h.l a ha)
  (p := fun a ha b hb => by
    rw [up2, up1]
    by_cases hq : b = i ∧ a = j
    · rw [if_pos (by omega), if_pos (by omega)]
    · rw [if_neg (by omega), if_neg (by omega)]; exact h.p a ha b hb)
theorem RO.oil (h : RO o r N K C) (hK : K ≤ 5) (hC : C ≤ 10) {j : Nat} (hj : j < 5) (v : Int32) : RO (va_up o 3 (va_up (o 3) j v)) (va_up r (19 + 3 * j + 1) v) N K C := RO.mk
  (i := fun a ha => by rw [up2, up1, if_neg (by omega), if_neg (by omega)]; exact h.i a ha)
  (u := by rw [up2, up1, if_neg (by omega), if_neg (by omega)]; exact h.u)
  (c := fun a ha => by rw [up2, up1, if_neg (by omega), if_neg (by omega)]; exact h.c a ha)
  (k := fun a ha => by rw [up2, up1, if_neg (by omega), if_neg (by omega)]; exact h.k a ha)
  (l := fun a ha => by
    rw [up2, up1]
    by_cases hq : a = j
    · rw [if_pos (by omega), if_pos (by omega)]
    · rw [if_neg (by omega), if_neg (by omega)]; exact h.l a ha)
  (p := fun a ha b hb => by rw [up2, up1, if_neg (by omega), if_neg (by omega)]; exact h.p a ha b hb)
theorem RO.skill (h : RO o r N K C) (hK : K ≤ 5) (hC : C ≤ 10) {j : Nat} (hj : j < 5) (v : Int32) : RO (va_up o 2 (va_up (o 2) j v)) (va_up r (19 + 3 * j) v) N K C := RO.mk
  (i := fun a ha => by rw [up2, up1, if_neg (by omega), if_neg (by omega)]; exact h.i a ha)
  (u := by rw [up2, up1, if_neg (by omega), if_neg (by omega)]; exact h.u)
  (c := fun a ha => by rw [up2, up1, if_neg (by omega), if_neg (by omega)]; exact h.c a ha)
  (l := fun a ha => by rw [up2, up1, if_neg (by omega), if_neg (by omega)]; exact h.l a ha)
  (k := fun a ha => by
    rw [up2, up1]
    by_cases hq : a = j
    · rw [if_pos (by omega), if_pos (by omega)]
    · rw [if_neg (by omega), if_neg (by omega)]; exact h.k a ha)
  (p := fun a ha b hb => by rw [up2, up1, if_neg (by omega), if_neg (by omega)]; exact h.p a ha b hb)
theorem RO.ans (h : RO o r N K C) (hK : K ≤ 5) (hC : C ≤ 10) {j : Nat} (hj : j < 5) (v : Int32) : RO o (va_up r (19 + 3 * j + 2) v) N K C := RO.mk
  (i := fun a ha => by rw [up1, if_neg (by omega)]; exact h.i a ha)
  (u := by rw [up1, if_neg (by omega)]; exact h.u)
  (c := fun a ha => by rw [up1, if_neg (by omega)]; exact h.c a ha)
  (k := fun a ha => by rw [up1, if_neg (by omega)]; exact h.k a ha)
  (l := fun a ha => by rw [up1, if_neg (by omega)]; exact h.l a ha)
  (p := fun a ha b hb => by rw [up1, if_neg (by omega)]; exact h.p a ha b hb)
/-- the reference's comfort and its three numbers: the office says nothing of them here -/
theorem RO.free (h : RO o r N K C) {j : Nat} (hj : j = 4 ∨ j = 5 ∨ j = 6 ∨ j = 8) (v : Int32) : RO o (va_up r j v) N K C := RO.mk
  (i := fun a ha => by rw [up1, if_neg (by omega)]; exact h.i a ha)
  (u := by rw [up1, if_neg (by omega)]; exact h.u)
  (c := fun a ha => by rw [up1, if_neg (by omega)]; exact h.c a ha)
  (k := fun a ha => by rw [up1, if_neg (by omega)]; exact h.k a ha)
  (l := fun a ha => by rw [up1, if_neg (by omega)]; exact h.l a ha)
  (p := fun a ha b hb => by rw [up1, if_neg (by omega)]; exact h.p a ha b hb)
theorem RO.freeo (h : RO o r N K C) {j : Nat} (hj : j = 4 ∨ j = 5 ∨ j = 7) (v : Int32) : RO (va_up o 0 (va_up (o 0) j v)) r N K C := RO.mk
  (i := fun a ha => by rw [up2, if_neg (by omega)]; exact h.i a ha)
  (u := by rw [up2, if_neg (by omega)]; exact h.u)
  (c := fun a ha => by rw [up2, if_neg (by omega)]; exact h.c a ha)
  (k := fun a ha => by rw [up2, if_neg (by omega)]; exact h.k a ha)
  (l := fun a ha => by rw [up2, if_neg (by omega)]; exact h.l a ha)
  (p := fun a ha b hb => by rw [up2, if_neg (by omega)]; exact h.p a ha b hb)
theorem RO.used (h : RO o r N K C) (v : Int32) : RO (va_up o 0 (va_up (o 0) 6 v)) (va_up r 7 v) N K C := RO.mk
  (i := fun a ha => by rw [up2, up1, if_neg (by omega), if_neg (by omega)]; exact h.i a ha)
  (u := by rw [up2, up1, if_pos (by omega), if_pos (by omega)])
  (c := fun a ha => by rw [up2, up1, if_neg (by omega), if_neg (by omega)]; exact h.c a ha)
  (k := fun a ha => by rw [up2, up1, if_neg (by omega), if_neg (by omega)]; exact h.k a ha)
  (l := fun a ha => by rw [up2, up1, if_neg (by omega), if_neg (by omega)]; exact h.l a ha)
  (p := fun a ha b hb => by rw [up2, up1, if_neg (by omega), if_neg (by omega)]; exact h.p a ha b hb)
theorem RO.lim (h : RO o r N K C) {j : Nat} (hj : j < 4) (v : Int32) : RO (va_up o 0 (va_up (o 0) j v)) (va_up r j v) N K C := RO.mk
  (i := fun a ha => by
    rw [up2, up1]
    by_cases hq : a = j
    · rw [if_pos (by omega), if_pos (by omega)]
    · rw [if_neg (by omega), if_neg (by omega)]; exact h.i a ha)
  (u := by rw [up2, up1, if_neg (by omega), if_neg (by omega)]; exact h.u)
  (c := fun a ha => by rw [up2, up1, if_neg (by omega), if_neg (by omega)]; exact h.c a ha)
  (k := fun a ha => by rw [up2, up1, if_neg (by omega), if_neg (by omega)]; exact h.k a ha)
  (l := fun a ha => by rw [up2, up1, if_neg (by omega), if_neg (by omega)]; exact h.l a ha)
  (p := fun a ha b hb => by rw [up2, up1, if_neg (by omega), if_neg (by omega)]; exact h.p a ha b hb)
theorem RO.cloud (h : RO o r N K C) (hC : C ≤ 10) {j : Nat} (hj : j < 10) (v : Int32) : RO (va_up o 1 (va_up (o 1) j v)) (va_up r (9 + j) v) N K C := RO.mk
  (i := fun a ha => by rw [up2, up1, if_neg (by omega), if_neg (by omega)]; exact h.i a ha)
  (u := by rw [up2, up1, if_neg (by omega), if_neg (by omega)]; exact h.u)
  (c := fun a ha => by
    rw [up2, up1]
    by_cases hq : a = j
    · rw [if_pos (by omega), if_pos (by omega)]
    · rw [if_neg (by omega), if_neg (by omega)]; exact h.c a ha)
  (k := fun a ha => by rw [up2, up1, if_neg (by omega), if_neg (by omega)]; exact h.k a ha)
  (l := fun a ha => by rw [up2, up1, if_neg (by omega), if_neg (by omega)]; exact h.l a ha)
  (p := fun a ha b hb => by rw [up2, up1, if_neg (by omega), if_neg (by omega)]; exact h.p a ha b hb)
theorem RO.close (h : RO o r N K C) (hK : K ≤ 5) (hC : C ≤ 10) (j : Nat) (st ck nt : Int32) (hn : r 0 = nt) : RO (pileClose o j st nt ck) (rCloses r j st ck) N K C := by
  have h1 := h.pile hK hC (i := 4) (j := j) (by decide) st
  have h2 := h1.pile hK hC (i := 5) (j := j) (by decide) nt
  have h3 := h2.pile hK hC (i := 6) (j := j) (by decide) ck
  have e : (va_up r (34 + 7 * j + 4) st) 0 = nt := by rw [up1, if_neg (by omega)]; exact hn
  rw [rCloses, e]
  exact h3
theorem RO.burn (h : RO o r N K C) (hK : K ≤ 5) (hC : C ≤ 10) {j : Nat} (hj : j < K) (z : Int32) : RO (burnC o j z) (rBurn r j z) N K C := by
  have h1 := (h.oil hK hC (j := j) (by omega) (r (19 + 3 * j + 1) - z)).used (r 7 + z)
  have e : (va_up r (19 + 3 * j + 1) (r (19 + 3 * j + 1) - z)) 7 = r 7 := by rw [up1, if_neg (by omega)]
  rw [rBurn, e]
  have e2 : burnC o j z = va_up (va_up o 3 (va_up (o 3) j (r (19 + 3 * j + 1) - z))) 0 (va_up ((va_up o 3 (va_up (o 3) j (r (19 + 3 * j + 1) - z))) 0) 6 (r 7 + z)) := by
    unfold burnC
    rw [← h.l j hj, ← h.u]
    funext a b
    simp only [up2]
    by_cases h0 : a = 0
    · subst h0; simp [va_up]
    · by_cases h3 : a = 3
      · subst h3; simp [va_up]
      · simp [va_up, h0, h3]
  rw [e2]
  exact h1
theorem mask_bit (p : Nat → Bool) {q : Nat} (hq : q < 4) : decide (((maskI p 4 0 0) >>> (nI q &&& 31)) &&& 1 = 1) = p q := by
  have e : maskI p 4 0 0 = maskI (fun k => if k = 0 then p 0 else if k = 1 then p 1 else if k = 2 then p 2 else p 3) 4 0 0 := rfl
  rw [e]
  have hp : p q = (if q = 0 then p 0 else if q = 1 then p 1 else if q = 2 then p 2 else p 3) := by
    rcases (by omega : q = 0 ∨ q = 1 ∨ q = 2 ∨ q = 3) with rfl | rfl | rfl | rfl <;> rfl
  rw [hp]
  generalize p 0 = a
  generalize p 1 = b
  generalize p 2 = c
  generalize p 3 = d
  have key : ∀ a b c d : Bool, ∀ q, q < 4 → decide (((maskI (fun k => if k = 0 then a else if k = 1 then b else if k = 2 then c else d) 4 0 0) >>> (nI q &&& 31)) &&& 1 = 1) = (if q = 0 then a else if q = 1 then b else if q = 2 then c else d) := by decide +kernel
  exact key a b c d q hq
theorem mostC_R {nt : Nat} (h : RO o r N K C) (hC : 0 < C) (hs : ∀ k, k < N → ∃ q, q < 4 ∧ r (34 + 7 * k + 1) = nI q) (ha : ∀ k, k < N → (0 : Int32) < r (34 + 7 * k + 2)) : mostC o (bitsC C nt o) N = angR r N C nt := by
  rw [mostC, maxF_best (fun k _ hk _ => by rw [show o 6 k = r (34 + 7 * k + 2) from h.p k (by omega) 2 (by decide)]; exact ha k (by omega))]
  refine bestB_congr (fun j hj => by cases hj) (fun k _ hk => ?_) (fun k j _ hk hj => ?_)
  · have hk : k < N := by omega
    obtain ⟨q, hq, e⟩ := hs k hk
    rw [show o 8 k = r (34 + 7 * k + 4) from h.p k hk 4 (by decide), show o 5 k = r (34 + 7 * k + 1) from h.p k hk 1 (by decide), e, bitsC, mask_bit _ hq, justR, e, h.i 1 (by decide), h.i 2 (by decide), h.i 3 (by decide), h.c _ (Nat.mod_lt _ hC), nI_clamp (by omega)]
  · rw [show o 6 k = r (34 + 7 * k + 2) from h.p k (by omega) 2 (by decide), show o 6 j = r (34 + 7 * j + 2) from h.p j (by omega) 2 (by decide)]
end RS
