/-! the two sides alike: a complaint closed -/
section VC
variable {o : Nat → Nat → Int32} {r : Nat → Int32} {N K C nt : Nat}
theorem rCloses_at (r : Nat → Int32) (j : Nat) (st ck : Int32) (a : Nat) : rCloses r j st ck a = if a = 34 + 7 * j + 6 then ck else if a = 34 + 7 * j + 5 then r 0 else if a = 34 + 7 * j + 4 then st else r a := by
  unfold rCloses
  simp only [up1]
  rw [if_neg (show ¬ (0 = 34 + 7 * j + 4) by omega)]
theorem rCloses_ne (r : Nat → Int32) (j : Nat) (st ck : Int32) {a : Nat} (h6 : a ≠ 34 + 7 * j + 6) (h5 : a ≠ 34 + 7 * j + 5) (h4 : a ≠ 34 + 7 * j + 4) : rCloses r j st ck a = r a := by
  rw [rCloses_at, if_neg h6, if_neg h5, if_neg h4]
theorem rCloses_st (r : Nat → Int32) (j : Nat) (st ck : Int32) : rCloses r j st ck (34 + 7 * j + 4) = st := by
  rw [rCloses_at, if_neg (by omega), if_neg (by omega), if_pos rfl]
theorem rCloses_by (r : Nat → Int32) (j : Nat) (st ck : Int32) : rCloses r j st ck (34 + 7 * j + 6) = ck := by
  rw [rCloses_at, if_pos rfl]
theorem rAns_at (r : Nat → Int32) {q j : Nat} (hj : j < 5) (a : Nat) : rAns r q j a = if a = 8 then r 8 + r (34 + 7 * q + 2) else if a = 19 + 3 * j + 2 then r a + 1 else rCloses r q 1 (nI j) a := by
  unfold rAns
  simp only [up1]
  rw [if_neg (show ¬ (8 = 19 + 3 * j + 2) by omega), if_neg (show ¬ (34 + 7 * q + 2 = 19 + 3 * j + 2) by omega), rCloses_ne r q 1 (nI j) (a := 8) (by omega) (by omega) (by omega), rCloses_ne r q 1 (nI j) (a := 34 + 7 * q + 2) (by omega) (by omega) (by omega), rCloses_ne r q 1 (nI j) (a := 19 + 3 * j + 2) (by omega) (by omega) (by omega)]
  by_cases h : a = 8
  · rw [if_pos h, if_pos h]
  · rw [if_neg h, if_neg h]
    by_cases h2 : a = 19 + 3 * j + 2
    · rw [if_pos h2, if_pos h2, h2]
    · rw [if_neg h2, if_neg h2]
theorem rAns_ne (r : Nat → Int32) {q j : Nat} (hj : j < 5) {a : Nat} (h : a ≠ 8) (h2 : a ≠ 19 + 3 * j + 2) : rAns r q j a = rCloses r q 1 (nI j) a := by
  rw [rAns_at r hj, if_neg h, if_neg h2]
theorem VI.close (h : VI r N K nt) (hK : K ≤ 5) {q s : Nat} {ck : Int32} (hq : q < N) (h0 : r (34 + 7 * q + 4) = 0) (hs : s = 2 ∨ s = 3) (hc : ck = -1 ∨ ∃ j, j < K ∧ ck = nI j) : VI (rCloses r q (nI s) ck) N K nt := VI.mk
  (oil := fun j hj => by rw [rCloses_ne _ _ _ _ (by omega) (by omega) (by omega)]; exact h.oil j hj)
  (ans := fun j hj => by
    rw [rCloses_ne _ _ _ _ (by omega) (by omega) (by omega), h.ans j hj]
    refine cntI_congr (fun k _ _ => ?_)
    by_cases e : k = q
    · subst e
      rw [rCloses_st, h0]
      have : ¬ nI s = 1 := by rcases hs with rfl | rfl <;> decide
      simp [this]
    · rw [rCloses_ne _ _ _ _ (by omega) (by omega) (by omega), rCloses_ne _ _ _ _ (by omega) (by omega) (by omega)])
  (com := by
    rw [rCloses_ne _ _ _ _ (by omega) (by omega) (by omega), h.com]
    refine sumI_congr (fun k _ _ => ?_) (fun k _ _ => ?_)
    · by_cases e : k = q
      · subst e
        rw [rCloses_st, h0]
        have : ¬ nI s = 1 := by rcases hs with rfl | rfl <;> decide
        simp [this]
      · rw [rCloses_ne _ _ _ _ (by omega) (by omega) (by omega)]
    · rw [rCloses_ne _ _ _ _ (by omega) (by omega) (by omega)])
  (ang := fun k hk => by rw [rCloses_ne _ _ _ _ (by omega) (by omega) (by omega)]; exact h.ang k hk)
  (st := fun k hk => by
    by_cases e : k = q
    · subst e; rw [rCloses_st]; exact ⟨s, by omega, rfl⟩
    · rw [rCloses_ne _ _ _ _ (by omega) (by omega) (by omega)]; exact h.st k hk)
  (by_ := fun k hk => by
    by_cases e : k = q
    · subst e; rw [rCloses_by]; exact hc
    · rw [rCloses_ne _ _ _ _ (by omega) (by omega) (by omega)]; exact h.by_ k hk)
  (fl := fun k hk => by
    obtain ⟨f, h1, h2, h3⟩ := h.fl k hk
    refine ⟨f, h1, by rw [rCloses_ne _ _ _ _ (by omega) (by omega) (by omega)]; exact h2, fun g => ?_⟩
    by_cases e : k = q
    · subst e; rw [rCloses_st] at g; rcases hs with rfl | rfl <;> exact absurd g (by decide)
    · rw [rCloses_ne _ _ _ _ (by omega) (by omega) (by omega)] at g; exact h3 g)
theorem VI.answer (h : VI r N K nt) (hK : K ≤ 5) {q j : Nat} (hq : q < N) (hj : j < K) (h0 : r (34 + 7 * q + 4) = 0) : VI (rAns r q j) N K nt := by
  have hj5 : j < 5 := by omega
  have hne : ∀ a, a ≠ 8 → a ≠ 19 + 3 * j + 2 → a ≠ 34 + 7 * q + 6 → a ≠ 34 + 7 * q + 5 → a ≠ 34 + 7 * q + 4 → rAns r q j a = r a := fun a h1 h2 h3 h4 h5 => by rw [rAns_ne r hj5 h1 h2, rCloses_ne _ _ _ _ h3 h4 h5]
  have hst : rAns r q j (34 + 7 * q + 4) = 1 := by rw [rAns_ne r hj5 (by omega) (by omega), rCloses_st]
  have hby : rAns r q j (34 + 7 * q + 6) = nI j := by rw [rAns_ne r hj5 (by omega) (by omega), rCloses_by]
  refine VI.mk ?_ ?_ ?_ ?_ ?_ ?_ ?_
  · intro z hz; rw [hne _ (by omega) (by omega) (by omega) (by omega) (by omega)]; exact h.oil z hz
  · intro z hz
    by_cases e : z = j
    · subst e
      rw [rAns_at r hj5, if_neg (by omega), if_pos rfl, h.ans z hz]
      refine (cntI_flip (k := q) ?_ ?_ ?_ (by omega) (by omega)).symm
      · rw [h0]; rfl
      · rw [hst, hby]; simp
      · intro k hk
        rw [hne _ (by omega) (by omega) (by omega) (by omega) (by omega), hne _ (by omega) (by omega) (by omega) (by omega) (by omega)]
    · rw [hne _ (by omega) (by omega) (by omega) (by omega) (by omega), h.ans z hz]
      refine cntI_congr (fun k _ _ => ?_)
      by_cases e2 : k = q
      · subst e2
        rw [hst, hby, h0]
        have : ¬ nI j = nI z := fun g => e (by have g := congrArg Int32.toInt g; rw [nI_toInt (by omega), nI_toInt (by omega)] at g; omega)
        simp [this]
      · rw [hne _ (by omega) (by omega) (by omega) (by omega) (by omega), hne _ (by omega) (by omega) (by omega) (by omega) (by omega)]
  · rw [rAns_at r hj5, if_pos rfl, h.com]
    refine (sumI_flip (f := fun k => r (34 + 7 * k + 2)) (g := fun k => rAns r q j (34 + 7 * k + 2)) (k := q) ?_ ?_ ?_ ?_ (by omega) (by omega)).symm
    · rw [h0]; rfl
    · rw [hst]; rfl
    · intro k hk
      rw [hne _ (by omega) (by omega) (by omega) (by omega) (by omega)]
    · intro k
      exact hne _ (by omega) (by omega) (by omega) (by omega) (by omega)
  · intro k hk; rw [hne _ (by omega) (by omega) (by omega) (by omega) (by omega)]; exact h.ang k hk
  · intro k hk
    by_cases e : k = q
    · subst e; rw [hst]; exact ⟨1, by decide, rfl⟩
    · rw [hne _ (by omega) (by omega) (by omega) (by omega) (by omega)]; exact h.st k hk
  · intro k hk
    by_cases e : k = q
    · subst e; rw [hby]; exact Or.inr ⟨j, hj, rfl⟩
    · rw [hne _ (by omega) (by omega) (by omega) (by omega) (by omega)]; exact h.by_ k hk
  · intro k hk
    obtain ⟨f, h1, h2, h3⟩ := h.fl k hk
    refine ⟨f, h1, by rw [hne _ (by omega) (by omega) (by omega) (by omega) (by omega)]; exact h2, fun g => ?_⟩
    by_cases e : k = q
    · subst e; rw [hst] at g; exact absurd g (by decide)
    · rw [hne _ (by omega) (by omega) (by omega) (by omega) (by omega)] at g; exact h3 g
theorem VI.burn (h : VI r N K nt) (hK : K ≤ 5) {j c : Nat} (hj : j < K) (hc : ¬ r (19 + 3 * j + 1) < nI c) (hc2 : c < 2 ^ 18) : VI (rBurn r j (nI c)) N K nt := by
  have hne : ∀ a, a ≠ 7 → a ≠ 19 + 3 * j + 1 → rBurn r j (nI c) a = r a := fun a h1 h2 => by unfold rBurn; rw [up1, if_neg h1, up1, if_neg h2]
  refine VI.mk ?_ ?_ ?_ ?_ ?_ ?_ ?_
  · intro z hz
    by_cases e : z = j
    · subst e
      obtain ⟨x, hx, he⟩ := h.oil z hz
      rw [he] at hc
      rw [Int32.lt_iff_toInt_lt, nI_toInt (by omega), nI_toInt (by omega)] at hc
      refine ⟨x - c, by omega, ?_⟩
      show va_up (va_up r _ _) 7 _ (19 + 3 * z + 1) = _
      rw [up1, if_neg (by omega), up1, if_pos rfl, he]
      apply Int32.toInt_inj.mp
      rw [pk_sub_toInt (by omega) (by omega), nI_toInt (by omega)]
      omega
    · rw [hne _ (by omega) (by omega)]; exact h.oil z hz
  · intro z hz
    rw [hne _ (by omega) (by omega), h.ans z hz]
    refine cntI_congr (fun k _ _ => ?_)
    rw [hne _ (by omega) (by omega), hne _ (by omega) (by omega)]
  · rw [hne _ (by omega) (by omega), h.com]
    refine sumI_congr (fun k _ _ => ?_) (fun k _ _ => ?_)
    · rw [hne _ (by omega) (by omega)]
    · rw [hne _ (by omega) (by omega)]
  · intro k hk; rw [hne _ (by omega) (by omega)]; exact h.ang k hk
  · intro k hk; rw [hne _ (by omega) (by omega)]; exact h.st k hk
  · intro k hk; rw [hne _ (by omega) (by omega)]; exact h.by_ k hk
  · intro k hk
    obtain ⟨f, h1, h2, h3⟩ := h.fl k hk
    exact ⟨f, h1, by rw [hne _ (by omega) (by omega)]; exact h2, fun g => h3 (by rw [hne _ (by omega) (by omega)] at g; exact g)⟩
end VC
