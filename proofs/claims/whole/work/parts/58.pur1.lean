/-! the two sides alike: words -/
theorem iter_congr {α : Type} {f g : Nat → α → α} : ∀ {n i : Nat} {x : α}, (∀ k y, i ≤ k → k < i + n → f k y = g k y) → iter f n i x = iter g n i x
  | 0, _, _, _ => rfl
  | n + 1, i, x, h => by
    show iter f n (i + 1) (f i x) = iter g n (i + 1) (g i x)
    rw [h i x (Nat.le_refl _) (by omega)]
    exact iter_congr (fun k y h1 h2 => h k y (by omega) (by omega))
/-- an invariant through a loop, two sides -/
theorem iter_rel {α β : Type} {f : Nat → α → α} {g : Nat → β → β} (R : Nat → α → β → Prop) : ∀ {n i : Nat} {x : α} {y : β}, R i x y → (∀ k x y, i ≤ k → k < i + n → R k x y → R (k + 1) (f k x) (g k y)) → R (i + n) (iter f n i x) (iter g n i y)
  | 0, _, _, _, h, _ => h
  | n + 1, i, x, y, h, hs => by
    have := iter_rel R (n := n) (i := i + 1) (hs i x y (Nat.le_refl _) (by omega) h) (fun k x y h1 h2 => hs k x y (by omega) (by omega))
    rw [show i + 1 + n = i + (n + 1) by omega] at this
    exact this
theorem iter_inv {α : Type} {f : Nat → α → α} (R : Nat → α → Prop) {n i : Nat} {x : α} (h : R i x) (hs : ∀ k x, i ≤ k → k < i + n → R k x → R (k + 1) (f k x)) : R (i + n) (iter f n i x) :=
  iter_rel (g := fun _ (y : Unit) => y) (fun k x _ => R k x) (y := ()) h (fun k x _ h1 h2 h3 => hs k x h1 h2 h3)
theorem cntI_congr {p q : Nat → Bool} {n i : Nat} {x : Int32} (h : ∀ k, i ≤ k → k < i + n → p k = q k) : cntI p n i x = cntI q n i x :=
  iter_congr (fun k y h1 h2 => by rw [h k h1 h2])
theorem sumI_congr {p q : Nat → Bool} {f g : Nat → Int32} {n i : Nat} {x : Int32} (h : ∀ k, i ≤ k → k < i + n → p k = q k) (hf : ∀ k, i ≤ k → k < i + n → f k = g k) : sumI p f n i x = sumI q g n i x :=
  iter_congr (fun k y h1 h2 => by rw [h k h1 h2, hf k h1 h2])
theorem ffind_congr {p q : Nat → Bool} : ∀ {n i : Nat}, (∀ k, i ≤ k → k < i + n → p k = q k) → ffind p n i = ffind q n i
  | 0, _, _ => rfl
  | n + 1, i, h => by
    simp only [ffind]
    rw [h i (Nat.le_refl _) (by omega), ffind_congr (fun k h1 h2 => h k (by omega) (by omega))]
theorem bestB_congr {p q : Nat → Bool} {l m : Nat → Nat → Bool} {n i : Nat} {b : Option Nat} (hb : ∀ j, b = some j → j < i) (h : ∀ k, i ≤ k → k < i + n → p k = q k) (hl : ∀ k j, i ≤ k → k < i + n → j < k → l k j = m k j) : bestB p l n i b = bestB q m n i b := by
  have := iter_rel (f := bstep p l) (g := bstep q m) (fun k x y => x = y ∧ ∀ j, x = some j → j < k) (n := n) (i := i) (x := b) (y := b) ⟨rfl, hb⟩ (by
    rintro k x y h1 h2 ⟨rfl, h4⟩
    cases x with
    | none =>
      simp only [bstep, h k h1 h2]
      refine ⟨trivial, fun j hj => ?_⟩
      split at hj
      · obtain rfl := Option.some.inj hj; omega
      · cases hj
    | some j =>
      simp only [bstep, h k h1 h2, hl k j h1 h2 (h4 j rfl)]
      refine ⟨trivial, fun z hz => ?_⟩
      have := h4 j rfl
      split at hz
      · split at hz
        · obtain rfl := Option.some.inj hz; omega
        · obtain rfl := Option.some.inj hz; omega
      · obtain rfl := Option.some.inj hz; omega)
  exact this.1
theorem minF_best {p : Nat → Bool} {f : Nat → Int32} {n i : Nat} {S : Int32} (hS : ∀ k, i ≤ k → k < i + n → p k = true → f k < S) : (minF p f n i (none, S)).1 = bestB p (fun k j => decide (f k < f j)) n i none := by
  have := iter_rel (f := fun k s => if p k && decide (f k < s.2) then (some k, f k) else s) (g := bstep p (fun k j => decide (f k < f j))) (fun _ (s : Option Nat × Int32) b => s.1 = b ∧ s.2 = b.elim S f) (n := n) (i := i) (x := (none, S)) (y := none) ⟨rfl, rfl⟩ (by
    rintro k ⟨s1, s2⟩ b h1 h2 ⟨h3, h4⟩
    subst h3
    have h4 : s2 = s1.elim S f := h4
    subst h4
    cases s1 with
    | none =>
      by_cases hp : p k = true
      · simp [bstep, hp, hS k h1 h2 hp]
      · simp [bstep, hp]
    | some j =>
      by_cases hp : p k = true
      · by_cases hq : f k < f j
        · simp [bstep, hp, hq]
        · simp [bstep, hp, hq]
      · simp [bstep, hp])
  exact this.1
theorem maxF_best {p : Nat → Bool} {f : Nat → Int32} {n i : Nat} {S : Int32} (hS : ∀ k, i ≤ k → k < i + n → p k = true → S < f k) : (maxF p f n i (none, S)).1 = bestB p (fun k j => decide (f j < f k)) n i none := by
  have := iter_rel (f := fun k s => if p k && decide (s.2 < f k) then (some k, f k) else s) (g := bstep p (fun k j => decide (f j < f k))) (fun _ (s : Option Nat × Int32) b => s.1 = b ∧ s.2 = b.elim S f) (n := n) (i := i) (x := (none, S)) (y := none) ⟨rfl, rfl⟩ (by
    rintro k ⟨s1, s2⟩ b h1 h2 ⟨h3, h4⟩
    subst h3
    have h4 : s2 = s1.elim S f := h4
    subst h4
    cases s1 with
    | none =>
      by_cases hp : p k = true
      · simp [bstep, hp, hS k h1 h2 hp]
      · simp [bstep, hp]
    | some j =>
      by_cases hp : p k = true
      · by_cases hq : f j < f k
        · simp [bstep, hp, hq]
        · simp [bstep, hp, hq]
      · simp [bstep, hp])
  exact this.1
theorem likeC_R (f : Nat → Int32) : (likeC f).1 = likeR f := by
  have := iter_rel (f := fun q (b : Nat × Int32) => if b.2 < f q then (q, f q) else b) (g := fun q b => if f b < f q then q else b) (fun _ (s : Nat × Int32) b => s.1 = b ∧ s.2 = f b) (n := 3) (i := 1) (x := (0, f 0)) (y := 0) ⟨rfl, rfl⟩ (by
    rintro k ⟨s1, s2⟩ b h1 h2 ⟨h3, h4⟩
    subst h3
    have h4 : s2 = f s1 := h4
    subst h4
    by_cases hq : f s1 < f k
    · simp [hq]
    · simp [hq])
  exact this.1
/-- the contents of an office and a row of the reference say the same -/
def RO (o : Nat → Nat → Int32) (r : Nat → Int32) (N K C : Nat) : Prop :=
  (∀ i, i < 4 → o 0 i = r i) ∧ o 0 6 = r 7 ∧ (∀ j, j < C → o 1 j = r (9 + j)) ∧ (∀ j, j < K → o 2 j = r (19 + 3 * j)) ∧ (∀ j, j < K → o 3 j = r (19 + 3 * j + 1)) ∧ ∀ j, j < N → ∀ i, i < 7 → o (4 + i) j = r (34 + 7 * j + i)
section ROF
variable {o : Nat → Nat → Int32} {r : Nat → Int32} {N K C : Nat}
theorem RO.mk (i : ∀ i, i < 4 → o 0 i = r i) (u : o 0 6 = r 7) (c : ∀ j, j < C → o 1 j = r (9 + j)) (k : ∀ j, j < K → o 2 j = r (19 + 3 * j)) (l : ∀ j, j < K → o 3 j = r (19 + 3 * j + 1)) (p : ∀ j, j < N → ∀ i, i < 7 → o (4 + i) j = r (34 + 7 * j + i)) : RO o r N K C := ⟨i, u, c, k, l, p⟩
theorem RO.i (h : RO o r N K C) : ∀ i, i < 4 → o 0 i = r i := h.1
theorem RO.u (h : RO o r N K C) : o 0 6 = r 7 := h.2.1
theorem RO.c (h : RO o r N K C) : ∀ j, j < C → o 1 j = r (9 + j) := h.2.2.1
theorem RO.k (h : RO o r N K C) : ∀ j, j < K → o 2 j = r (19 + 3 * j) := h.2.2.2.1
theorem RO.l (h : RO o r N K C) : ∀ j, j < K → o 3 j = r (19 + 3 * j + 1) := h.2.2.2.2.1
theorem RO.p (h : RO o r N K C) : ∀ j, j < N → ∀ i, i < 7 → o (4 + i) j = r (34 + 7 * j + i) := h.2.2.2.2.2
end ROF
/-- what a row keeps -/
def VI (r : Nat → Int32) (N K nt : Nat) : Prop :=
  (∀ j, j < K → ∃ z, z ≤ 99 ∧ r (19 + 3 * j + 1) = nI z) ∧
  (∀ j, j < K → r (19 + 3 * j + 2) = cntI (fun k => decide (r (34 + 7 * k + 4) = 1) && decide (r (34 + 7 * k + 6) = nI j)) N 0 0) ∧
  (r 8 = sumI (fun k => decide (r (34 + 7 * k + 4) = 1)) (fun k => r (34 + 7 * k + 2)) N 0 0) ∧
  (∀ k, k < N → ∃ z, 0 < z ∧ z ≤ 9 ∧ r (34 + 7 * k + 2) = nI z) ∧
  (∀ k, k < N → ∃ q, q < 4 ∧ r (34 + 7 * k + 4) = nI q) ∧
  (∀ k, k < N → r (34 + 7 * k + 6) = -1 ∨ ∃ j, j < K ∧ r (34 + 7 * k + 6) = nI j) ∧
  RWt r N nt
section VIF
variable {r : Nat → Int32} {N K nt : Nat}
theorem VI.mk (oil : ∀ j, j < K → ∃ z, z ≤ 99 ∧ r (19 + 3 * j + 1) = nI z) (ans : ∀ j, j < K → r (19 + 3 * j + 2) = cntI (fun k => decide (r (34 + 7 * k + 4) = 1) && decide (r (34 + 7 * k + 6) = nI j)) N 0 0) (com : r 8 = sumI (fun k => decide (r (34 + 7 * k + 4) = 1)) (fun k => r (34 + 7 * k + 2)) N 0 0) (ang : ∀ k, k < N → ∃ z, 0 < z ∧ z ≤ 9 ∧ r (34 + 7 * k + 2) = nI z) (st : ∀ k, k < N → ∃ q, q < 4 ∧ r (34 + 7 * k + 4) = nI q) (by_ : ∀ k, k < N → r (34 + 7 * k + 6) = -1 ∨ ∃ j, j < K ∧ r (34 + 7 * k + 6) = nI j) (fl : RWt r N nt) : VI r N K nt := ⟨oil, ans, com, ang, st, by_, fl⟩
theorem VI.oil (h : VI r N K nt) : ∀ j, j < K → ∃ z, z ≤ 99 ∧ r (19 + 3 * j + 1) = nI z := h.1
theorem VI.ans (h : VI r N K nt) : ∀ j, j < K → r (19 + 3 * j + 2) = cntI (fun k => decide (r (34 + 7 * k + 4) = 1) && decide (r (34 + 7 * k + 6) = nI j)) N 0 0 := h.2.1
theorem VI.com (h : VI r N K nt) : r 8 = sumI (fun k => decide (r (34 + 7 * k + 4) = 1)) (fun k => r (34 + 7 * k + 2)) N 0 0 := h.2.2.1
theorem VI.ang (h : VI r N K nt) : ∀ k, k < N → ∃ z, 0 < z ∧ z ≤ 9 ∧ r (34 + 7 * k + 2) = nI z := h.2.2.2.1
theorem VI.st (h : VI r N K nt) : ∀ k, k < N → ∃ q, q < 4 ∧ r (34 + 7 * k + 4) = nI q := h.2.2.2.2.1
theorem VI.by_ (h : VI r N K nt) : ∀ k, k < N → r (34 + 7 * k + 6) = -1 ∨ ∃ j, j < K ∧ r (34 + 7 * k + 6) = nI j := h.2.2.2.2.2.1
theorem VI.fl (h : VI r N K nt) : RWt r N nt := h.2.2.2.2.2.2
end VIF
theorem findC_R {o : Nat → Nat → Int32} {r : Nat → Int32} {N K C : Nat} (h : RO o r N K C) (pe so : Int32) : findC o pe so N = findR r pe so N := by
  refine ffind_congr (fun k _ hk => ?_)
  have hk : k < N := by omega
  rw [show o 8 k = r (34 + 7 * k + 4) from h.p k hk 4 (by decide), show o 4 k = r (34 + 7 * k) from h.p k hk 0 (by decide), show o 5 k = r (34 + 7 * k + 1) from h.p k hk 1 (by decide)]
theorem cntC_R {o : Nat → Nat → Int32} {r : Nat → Int32} {N K C : Nat} (h : RO o r N K C) (z : Int32) : cntC o z N = cntR r z N := by
  refine cntI_congr (fun k _ hk => ?_)
  rw [show o 8 k = r (34 + 7 * k + 4) from h.p k (by omega) 4 (by decide)]
theorem jcC_R {o : Nat → Nat → Int32} {r : Nat → Int32} {N K C : Nat} (h : RO o r N K C) (hC : 0 < C) (nt q : Nat) : jcC o C nt q = cntJ r C nt q := by
  refine cntI_congr (fun k _ hk => ?_)
  rw [h.i 1 (by decide), h.i 2 (by decide), h.i 3 (by decide), h.c _ (Nat.mod_lt _ hC)]
theorem nextC_R {o : Nat → Nat → Int32} {r : Nat → Int32} {N K C : Nat} (h : RO o r N K C) (hC : 0 < C) (nt q : Nat) : nextC o C nt q = nextR r C nt q := by
  refine ffind_congr (fun k _ hk => ?_)
  rw [h.i 1 (by decide), h.i 2 (by decide), h.i 3 (by decide), h.c _ (Nat.mod_lt _ hC)]
theorem costC_R {o : Nat → Nat → Int32} {r : Nat → Int32} {N K C : Nat} (h : RO o r N K C) (hC : 0 < C) (nt : Nat) : costC C nt o = costR C nt r := by
  rw [costC, costR, h.c _ (Nat.mod_lt _ hC)]
