/-! plain words: loops, searches, the moon; and the worlds of an office and of the reference -/
def iter {α : Type} (f : Nat → α → α) : Nat → Nat → α → α
  | 0, _, x => x
  | n + 1, i, x => iter f n (i + 1) (f i x)
theorem iter_step {α : Type} {f : Nat → α → α} {N k : Nat} {x : α} (h : k < N) : iter f (N - k) k x = iter f (N - (k + 1)) (k + 1) (f k x) := by
  rw [show N - k = (N - (k + 1)) + 1 by omega]; rfl
theorem iter_done {α : Type} {f : Nat → α → α} {N k : Nat} {x : α} (h : N ≤ k) : iter f (N - k) k x = x := by
  rw [show N - k = 0 by omega]; rfl
def ffind (p : Nat → Bool) : Nat → Nat → Option Nat
  | 0, _ => none
  | n + 1, i => if p i then some i else ffind p n (i + 1)
theorem ffind_step {p : Nat → Bool} {N k : Nat} (h : k < N) : ffind p (N - k) k = if p k then some k else ffind p (N - (k + 1)) (k + 1) := by
  rw [show N - k = (N - (k + 1)) + 1 by omega]; rfl
theorem ffind_done {p : Nat → Bool} {N k : Nat} (h : N ≤ k) : ffind p (N - k) k = none := by
  rw [show N - k = 0 by omega]; rfl
theorem ffind_lt {p : Nat → Bool} : ∀ {n i j : Nat}, ffind p n i = some j → i ≤ j ∧ j < i + n ∧ p j = true
  | 0, _, _, h => by cases h
  | n + 1, i, j, h => by
    simp only [ffind] at h
    by_cases hp : p i = true
    · rw [if_pos hp] at h
      obtain rfl := Option.some.inj h
      exact ⟨Nat.le_refl _, by omega, hp⟩
    · rw [if_neg hp] at h
      obtain ⟨h1, h2, h3⟩ := ffind_lt h
      exact ⟨by omega, by omega, h3⟩
def oI : Option Nat → Int32
  | none => -1
  | some k => nI k
def bI (b : Bool) : Int32 := if b then 1 else 0
theorem bI_nb (b : Bool) : narrow .boolean (.int (bI b)) = .int (bI b) := by cases b <;> rfl
theorem bI_0 {b : Bool} : bI b = 0 ↔ b = false := by cases b <;> decide
theorem bI_n0 {b : Bool} : ¬ bI b = 0 ↔ b = true := by cases b <;> decide
theorem oI_lt {b : Option Nat} (h : ∀ j, b = some j → j < 2 ^ 31) : oI b < 0 ↔ b = none := by
  cases b with
  | none => exact ⟨fun _ => rfl, fun _ => by decide⟩
  | some j => exact ⟨fun q => absurd q (nI_pos (h j rfl)), fun q => by cases q⟩
theorem oI_m1 {b : Option Nat} (h : ∀ j, b = some j → j < 2 ^ 31) : oI b = -1 ↔ b = none := by
  cases b with
  | none => exact ⟨fun _ => rfl, fun _ => rfl⟩
  | some j => exact ⟨fun q => absurd (show nI j < 0 by rw [show nI j = -1 from q]; decide) (nI_pos (h j rfl)), fun q => by cases q⟩
def lightN (k : Nat) : Nat := if k % 28 ≤ 14 then k % 28 else 28 - k % 28
def tideN (k : Nat) : Nat := if k % 28 % 14 ≤ 7 then 7 - k % 28 % 14 else k % 28 % 14 - 7
def visI (k : Nat) (c : Int32) : Int32 := nI (lightN k) * (10 - c) / 10
def justB (q : Nat) (g1 g2 g3 : Int32) (k : Nat) (c : Int32) : Bool :=
  if q = 0 then decide (g1 ≤ visI k c) else if q = 1 then decide (visI k c ≤ g2) else if q = 2 then decide (g3 ≤ nI (tideN k)) else decide (4 ≤ nI (lightN k)) && decide (c ≤ 2)
/-- an office's 14 cells: addresses a, contents o (row 0: night, glare, gloom, tide limit, clouds' number, clerks' number, oil used, complaints' number; 1 clouds; 2 skills; 3 oils; 4.. persons, sorts, angers, filed, states, closed, clerks) -/
def OFF (T : Nat → ClassId) (a : Nat → Nat) (o : Nat → Nat → Int32) : va_W :=
  [(a 0, .inr (3, [.int (o 0 0), .ref (a 1), .ref (a 3), .ref (a 6)])),
   (a 1, .inr (6, [.int (o 0 1), .int (o 0 2), .int (o 0 3), .int (o 0 4), .ref (a 2)])),
   (a 2, .inl (T 0, 10, .inl (o 1))),
   (a 3, .inr (8, [.int (o 0 5), .int (o 0 6), .ref (a 4), .ref (a 5)])),
   (a 4, .inl (T 0, 5, .inl (o 2))),
   (a 5, .inl (T 0, 5, .inl (o 3))),
   (a 6, .inr (5, [.int (o 0 7), .ref (a 7), .ref (a 8), .ref (a 9), .ref (a 10), .ref (a 11), .ref (a 12), .ref (a 13)])),
   (a 7, .inl (T 0, 24, .inl (o 4))),
   (a 8, .inl (T 0, 24, .inl (o 5))),
   (a 9, .inl (T 0, 24, .inl (o 6))),
   (a 10, .inl (T 0, 24, .inl (o 7))),
   (a 11, .inl (T 0, 24, .inl (o 8))),
   (a 12, .inl (T 0, 24, .inl (o 9))),
   (a 13, .inl (T 0, 24, .inl (o 10)))]
theorem light_abs (k : Nat) (hk : k < 2 ^ 31) : (14 : Int32) - (if (0 : Int32) ≤ 14 - (nI k - nI k / 28 * 28) then 14 - (nI k - nI k / 28 * 28) else 0 - (14 - (nI k - nI k / 28 * 28))) = nI (lightN k) := by
  have h : nI k - nI k / 28 * 28 = nI (k % 28) := pk_rem (d := 28) hk (by decide) (by decide)
  rw [h, lightN]
  have : ∀ r, r < 28 → (14 : Int32) - (if (0 : Int32) ≤ 14 - nI r then 14 - nI r else 0 - (14 - nI r)) = nI (if r ≤ 14 then r else 28 - r) := by decide +kernel
  exact this _ (Nat.mod_lt _ (by decide))
theorem tide_abs (k : Nat) (hk : k < 2 ^ 31) : (if (0 : Int32) ≤ 7 - nI (k % 28 % 14) then 7 - nI (k % 28 % 14) else 0 - (7 - nI (k % 28 % 14))) = nI (tideN k) := by
  rw [tideN]
  have : ∀ r, r < 14 → (if (0 : Int32) ≤ 7 - nI r then 7 - nI r else 0 - (7 - nI r)) = nI (if r ≤ 7 then 7 - r else r - 7) := by decide +kernel
  exact this _ (Nat.mod_lt _ (by decide))
theorem rem28 {k : Nat} (hk : k < 2 ^ 31) : nI k - nI k / 28 * 28 = nI (k % 28) := pk_rem (d := 28) hk (by decide) (by decide)
theorem rem14 {k : Nat} (hk : k < 2 ^ 31) : nI k - nI k / 14 * 14 = nI (k % 14) := pk_rem (d := 14) hk (by decide) (by decide)
def apartI (x y : Int32) : Int32 := if y < x then x - y else y - x
theorem light_apart (k : Nat) (hk : k < 2 ^ 31) : (14 : Int32) - apartI 14 (nI (k % 28)) = nI (lightN k) := by
  rw [lightN]
  have : ∀ r, r < 28 → (14 : Int32) - apartI 14 (nI r) = nI (if r ≤ 14 then r else 28 - r) := by decide +kernel
  exact this _ (Nat.mod_lt _ (by decide))
theorem tide_apart (k : Nat) : apartI 7 (nI (k % 28 % 14)) = nI (tideN k) := by
  rw [tideN]
  have : ∀ r, r < 14 → apartI 7 (nI r) = nI (if r ≤ 7 then 7 - r else r - 7) := by decide +kernel
  exact this _ (Nat.mod_lt _ (by decide))
theorem lightN_le (k : Nat) : lightN k ≤ 14 := by unfold lightN; split <;> omega
/-- how many of the n numbers from i on have p -/
def cntI (p : Nat → Bool) (n i : Nat) (x : Int32) : Int32 := iter (fun k acc => if p k then acc + 1 else acc) n i x
def sumI (p : Nat → Bool) (f : Nat → Int32) (n i : Nat) (x : Int32) : Int32 := iter (fun k acc => if p k then acc + f k else acc) n i x
/-- the one of p with the greatest f (better: lt x y says y beats x), the first of several -/
def bstep (p : Nat → Bool) (lt : Nat → Nat → Bool) (k : Nat) : Option Nat → Option Nat
  | none => if p k then some k else none
  | some j => if p k then (if lt k j then some k else some j) else some j
def bestB (p : Nat → Bool) (lt : Nat → Nat → Bool) (n i : Nat) (b : Option Nat) : Option Nat := iter (bstep p lt) n i b
theorem bstep_lt {p : Nat → Bool} {lt : Nat → Nat → Bool} {k : Nat} {b : Option Nat} {j : Nat} (h : bstep p lt k b = some j) : b = some j ∨ (j = k ∧ p k = true) := by
  cases b with
  | none =>
    simp only [bstep] at h
    split at h
    · obtain rfl := Option.some.inj h; exact Or.inr ⟨rfl, by assumption⟩
    · cases h
  | some q =>
    simp only [bstep] at h
    split at h
    · split at h
      · obtain rfl := Option.some.inj h; exact Or.inr ⟨rfl, by assumption⟩
      · exact Or.inl h
    · exact Or.inl h
theorem bestB_lt {p : Nat → Bool} {lt : Nat → Nat → Bool} : ∀ {n i : Nat} {b : Option Nat} {j : Nat}, bestB p lt n i b = some j → (b = some j ∨ (i ≤ j ∧ j < i + n ∧ p j = true))
  | 0, _, _, _, h => Or.inl h
  | n + 1, i, b, j, h => by
    have h' : bestB p lt n (i + 1) (bstep p lt i b) = some j := h
    rcases bestB_lt h' with g | ⟨g1, g2, g3⟩
    · rcases bstep_lt g with g | ⟨rfl, g⟩
      · exact Or.inl g
      · exact Or.inr ⟨Nat.le_refl _, by omega, g⟩
    · exact Or.inr ⟨by omega, by omega, g3⟩
theorem bestB_step {p : Nat → Bool} {lt : Nat → Nat → Bool} {N k : Nat} {b : Option Nat} (h : k < N) : bestB p lt (N - k) k b = bestB p lt (N - (k + 1)) (k + 1) (bstep p lt k b) := iter_step h
theorem bestB_done {p : Nat → Bool} {lt : Nat → Nat → Bool} {N k : Nat} {b : Option Nat} (h : N ≤ k) : bestB p lt (N - k) k b = b := iter_done h
theorem cntI_step {p : Nat → Bool} {N k : Nat} {x : Int32} (h : k < N) : cntI p (N - k) k x = cntI p (N - (k + 1)) (k + 1) (if p k then x + 1 else x) := iter_step h
theorem cntI_done {p : Nat → Bool} {N k : Nat} {x : Int32} (h : N ≤ k) : cntI p (N - k) k x = x := iter_done h
theorem sumI_step {p : Nat → Bool} {f : Nat → Int32} {N k : Nat} {x : Int32} (h : k < N) : sumI p f (N - k) k x = sumI p f (N - (k + 1)) (k + 1) (if p k then x + f k else x) := iter_step h
theorem sumI_done {p : Nat → Bool} {f : Nat → Int32} {N k : Nat} {x : Int32} (h : N ≤ k) : sumI p f (N - k) k x = x := iter_done h
