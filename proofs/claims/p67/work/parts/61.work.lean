/-! a night, one office alone: the clerks' work -/
def cN (p : Nat → Bool) : Nat → Nat
  | 0 => 0
  | n + 1 => cN p n + (if p n then 1 else 0)
theorem cN_le (p : Nat → Bool) : ∀ n, cN p n ≤ n
  | 0 => Nat.le_refl _
  | n + 1 => by
    have := cN_le p n
    show cN p n + _ ≤ _
    split <;> omega
theorem cN_congr {p q : Nat → Bool} : ∀ {n : Nat}, (∀ k, k < n → p k = q k) → cN p n = cN q n
  | 0, _ => rfl
  | n + 1, h => by
    show cN p n + _ = cN q n + _
    rw [cN_congr (fun k hk => h k (by omega)), h n (by omega)]
theorem cN_flip {p q : Nat → Bool} {k : Nat} (hp : p k = false) (hq : q k = true) : ∀ {n : Nat}, k < n → (∀ j, j < n → j ≠ k → q j = p j) → cN q n = cN p n + 1
  | 0, h, _ => by omega
  | n + 1, h, he => by
    show cN q n + _ = cN p n + _ + 1
    by_cases e : n = k
    · subst e
      rw [hq, hp, cN_congr (fun j hj => he j (by omega) (by omega))]; rfl
    · rw [cN_flip hp hq (by omega) (fun j hj hn => he j (by omega) hn), he n (by omega) e]; omega
theorem cntI_cN (p : Nat → Bool) : ∀ (n i a : Nat), cntI p n i (nI a) = nI (a + cN (fun k => p (i + k)) n)
  | 0, i, a => rfl
  | n + 1, i, a => by
    have hs : cN (fun k => p (i + k)) (n + 1) = (if p i then 1 else 0) + cN (fun k => p (i + 1 + k)) n := by
      have key : ∀ (f : Nat → Bool) (n : Nat), cN f (n + 1) = (if f 0 then 1 else 0) + cN (fun k => f (k + 1)) n := by
        intro f n
        induction n with
        | zero => show 0 + (if f 0 then 1 else 0) = (if f 0 then 1 else 0) + 0; rw [Nat.zero_add, Nat.add_zero]
        | succ n ih =>
          show cN f (n + 1) + (if f (n + 1) then 1 else 0) = _ + (cN (fun k => f (k + 1)) n + (if f (n + 1) then 1 else 0))
          rw [ih]; omega
      rw [key]
      rw [show i + 0 = i from rfl]
      congr 1
      exact cN_congr (fun k _ => by rw [show i + (k + 1) = i + 1 + k by omega])
    show cntI p n (i + 1) (if p i then nI a + 1 else nI a) = _
    rw [hs]
    by_cases h : p i = true
    · rw [if_pos h, if_pos h, nI_1, cntI_cN p n (i + 1) (a + 1)]; congr 1; omega
    · rw [if_neg h, if_neg h, cntI_cN p n (i + 1) a]; congr 1; omega
theorem cntI_0N (p : Nat → Bool) (n : Nat) : cntI p n 0 0 = nI (cN p n) := by
  have h := cntI_cN p n 0 0
  rw [Nat.zero_add] at h
  refine Eq.trans h ?_
  congr 1
  exact cN_congr (fun k _ => by rw [Nat.zero_add])
def sN (f : Nat → Nat) : Nat → Nat
  | 0 => 0
  | n + 1 => sN f n + f n
theorem sN_congr {f g : Nat → Nat} : ∀ {n : Nat}, (∀ k, k < n → f k = g k) → sN f n = sN g n
  | 0, _ => rfl
  | n + 1, h => by
    show sN f n + f n = sN g n + g n
    rw [sN_congr (fun k hk => h k (by omega)), h n (by omega)]
theorem sN_one {f g : Nat → Nat} {j : Nat} (hj : g j = f j + 1) : ∀ {n : Nat}, j < n → (∀ i, i < n → i ≠ j → g i = f i) → sN g n = sN f n + 1
  | 0, h, _ => by omega
  | n + 1, h, he => by
    show sN g n + g n = sN f n + f n + 1
    by_cases e : n = j
    · subst e
      rw [hj, sN_congr (fun k hk => he k (by omega) (by omega))]; omega
    · rw [sN_one hj (by omega) (fun i hi hn => he i (by omega) hn), he n (by omega) e]; omega
/-- how many of those that waited in o the clerk j took, seen in o1; how many were taken at all -/
def hnd (o o1 : Nat → Nat → Int32) (N j : Nat) : Nat := cN (fun k => decide (o 8 k = 0) && decide (o1 10 k = nI j)) N
def tN (o o1 : Nat → Nat → Int32) (N : Nat) : Nat := cN (fun k => decide (o 8 k = 0) && (decide (o1 8 k = 1) || decide (o1 8 k = 2))) N
/-- what became of one in a night's work -/
def CW (o o1 : Nat → Nat → Int32) (K C nt k : Nat) : Prop :=
  (o1 8 k = o 8 k ∧ o1 9 k = o 9 k ∧ o1 10 k = o 10 k) ∨
  (o 8 k = 0 ∧ o1 9 k = nI nt ∧ (∃ j, j < K ∧ o1 10 k = nI j) ∧ ((o1 8 k = 1 ∧ ∀ q, o 5 k = nI q → q < 4 → justB q (o 0 1) (o 0 2) (o 0 3) nt (o 1 (nt % C)) = true) ∨ (o1 8 k = 2 ∧ ∀ f, o 7 k = nI f → f ≤ nt → f + 14 ≤ nt)))
def WR (o o1 : Nat → Nat → Int32) : Prop := (∀ i, i ≠ 6 → o1 0 i = o 0 i) ∧ o1 1 = o 1 ∧ o1 2 = o 2 ∧ o1 4 = o 4 ∧ o1 5 = o 5 ∧ o1 6 = o 6 ∧ o1 7 = o 7
def WI (o o1 : Nat → Nat → Int32) (N K C nt c : Nat) : Prop := WR o o1 ∧ (∀ k, k < N → CW o o1 K C nt k) ∧ (∀ j, j < K → ∃ z, z + c * hnd o o1 N j ≤ 99 ∧ o1 3 j = nI z ∧ o 3 j = nI (z + c * hnd o o1 N j)) ∧ o1 0 6 = o 0 6 + nI (c * tN o o1 N) ∧ sN (hnd o o1 N) K = tN o o1 N ∧
  cN (fun k => decide (o1 8 k = 1)) N + cN (fun k => decide (o1 8 k = 2)) N = cN (fun k => decide (o 8 k = 1)) N + cN (fun k => decide (o 8 k = 2)) N + tN o o1 N
section WK
variable {o o1 : Nat → Nat → Int32} {N K C nt c : Nat}
theorem sN_0 : ∀ n, sN (fun _ => 0) n = 0
  | 0 => rfl
  | n + 1 => by show sN _ n + 0 = 0; rw [sN_0 n]
theorem cN_0 {p : Nat → Bool} : ∀ {n : Nat}, (∀ k, k < n → p k = false) → cN p n = 0
  | 0, _ => rfl
  | n + 1, h => by
    show cN p n + _ = 0
    rw [cN_0 (fun k hk => h k (by omega)), h n (by omega)]; rfl
theorem hnd_0 (h : OV o N K C nt) (j : Nat) (hj : j < 2 ^ 31) : hnd o o N j = 0 := by
  refine cN_0 (fun k hk => ?_)
  obtain ⟨p, q, a, f, -, -, -, -, -, -, -, -, -, hs⟩ := h.co k hk
  rcases hs with ⟨e8, e10, -⟩ | ⟨cc, -, -, -, -, ⟨e8, -⟩ | ⟨e8, -⟩ | ⟨e8, -⟩⟩
  · rw [e10, decide_eq_false (p := (-1 : Int32) = nI j) (fun e => nI_nneg hj (by decide) e.symm), Bool.and_false]
  · rw [e8]; rfl
  · rw [e8]; rfl
  · rw [e8]; rfl
theorem tN_0 : tN o o N = 0 := by
  refine cN_0 (fun k hk => ?_)
  by_cases e : o 8 k = 0
  · rw [e]; rfl
  · rw [decide_eq_false e]; rfl
theorem WI.refl (h : OV o N K C nt) : WI o o N K C nt c := by
  refine ⟨⟨fun _ _ => rfl, rfl, rfl, rfl, rfl, rfl, rfl⟩, fun k _ => Or.inl ⟨rfl, rfl, rfl⟩, fun j hj => ?_, ?_, ?_, ?_⟩
  · obtain ⟨z, hz, e⟩ := h.oil j hj
    have hK := h.K5
    refine ⟨z, ?_, e, ?_⟩ <;> rw [hnd_0 h j (by omega), Nat.mul_zero]
    · exact hz
    · exact e
  · rw [tN_0, Nat.mul_zero]
    show o 0 6 = o 0 6 + 0
    rw [Int32.add_zero]
  · rw [tN_0]
    have hK := h.K5
    rw [sN_congr (g := fun _ => 0) (fun j hj => hnd_0 h j (by omega)), sN_0]
  · rw [tN_0]; omega
theorem mul_succ' (c a : Nat) : c * (a + 1) = c * a + c := Nat.mul_succ c a
/-- one more taken -/
theorem WI.take (hI : WI o o1 N K C nt c) (hOV : OV o N K C nt) {q j st : Nat} (hq : q < N) (hj : j < K) (h8 : o1 8 q = 0) (hst : st = 1 ∨ st = 2) (hoil : ¬ o1 3 j < nI c) (hc : c ≤ 6)
    (hwhy : (st = 1 ∧ ∀ s, o 5 q = nI s → s < 4 → justB s (o 0 1) (o 0 2) (o 0 3) nt (o 1 (nt % C)) = true) ∨ (st = 2 ∧ ∀ f, o 7 q = nI f → f ≤ nt → f + 14 ≤ nt)) :
    WI o (burnC (pileClose o1 q (nI st) (o1 0 0) (nI j)) j (nI c)) N K C nt c ∧ hnd o (burnC (pileClose o1 q (nI st) (o1 0 0) (nI j)) j (nI c)) N j = hnd o o1 N j + 1 ∧ ∀ i, i < 2 ^ 31 → i ≠ j → hnd o (burnC (pileClose o1 q (nI st) (o1 0 0) (nI j)) j (nI c)) N i = hnd o o1 N i := by
  obtain ⟨⟨w0, w1, w2, w4, w5, w6, w7⟩, hcw, ho, hu, hs, hd⟩ := hI
  have hK := hOV.K5
  have hnt0 : o 0 0 = nI nt := hOV.oi.2.2.2.2.2.2.2.1
  have g0 : o 8 q = 0 ∧ o1 10 q = -1 := by
    rcases hcw q hq with ⟨e1, -, e3⟩ | ⟨-, -, -, e⟩
    · rw [h8] at e1
      refine ⟨e1.symm, ?_⟩
      obtain ⟨p', q', a', f', -, -, -, -, -, -, -, -, -, hs'⟩ := hOV.co q hq
      rw [e3]
      rcases hs' with ⟨-, e10, -⟩ | ⟨cc, -, -, -, -, ⟨e8, -⟩ | ⟨e8, -⟩ | ⟨e8, -⟩⟩
      · exact e10
      · rw [← e1] at e8; exact absurd e8 (by decide)
      · rw [← e1] at e8; exact absurd e8 (by decide)
      · rw [← e1] at e8; exact absurd e8 (by decide)
    · rcases e with ⟨e, -⟩ | ⟨e, -⟩ <;> rw [h8] at e <;> exact absurd e (by decide)
  generalize ho2 : burnC (pileClose o1 q (nI st) (o1 0 0) (nI j)) j (nI c) = o2
  have r8 : ∀ k, o2 8 k = if k = q then nI st else o1 8 k := fun k => by rw [← ho2]; rfl
  have r9 : ∀ k, o2 9 k = if k = q then o1 0 0 else o1 9 k := fun k => by rw [← ho2]; rfl
  have r10 : ∀ k, o2 10 k = if k = q then nI j else o1 10 k := fun k => by rw [← ho2]; rfl
  have r3 : ∀ i, o2 3 i = if i = j then o1 3 j - nI c else o1 3 i := fun k => by rw [← ho2]; rfl
  have r0 : ∀ i, o2 0 i = if i = 6 then o1 0 6 + nI c else o1 0 i := fun k => by rw [← ho2]; rfl
  have rr : o2 1 = o1 1 ∧ o2 2 = o1 2 ∧ o2 4 = o1 4 ∧ o2 5 = o1 5 ∧ o2 6 = o1 6 ∧ o2 7 = o1 7 := by rw [← ho2]; exact ⟨rfl, rfl, rfl, rfl, rfl, rfl⟩
  have hst3 : ¬ nI st = 0 := by rcases hst with rfl | rfl <;> decide
  have hh : hnd o o2 N j = hnd o o1 N j + 1 := by
    refine cN_flip (k := q) ?_ ?_ hq (fun i _ hi => ?_)
    · show (decide _ && decide (o1 10 q = nI j)) = false
      rw [g0.2, decide_eq_false (p := (-1 : Int32) = nI j) (fun e => nI_nneg (by omega) (by decide) e.symm), Bool.and_false]
    · show (decide (o 8 q = 0) && decide (o2 10 q = nI j)) = true
      rw [r10, if_pos rfl, g0.1]; simp
    · show (decide _ && decide (o2 10 i = nI j)) = _
      rw [r10, if_neg hi]
  have hi2 : ∀ i, i < 2 ^ 31 → i ≠ j → hnd o o2 N i = hnd o o1 N i := fun i hi3 hi => by
    refine cN_congr (fun k _ => ?_)
    by_cases e : k = q
    · subst e
      rw [r10, if_pos rfl, g0.2, decide_eq_false (p := nI j = nI i) (fun e => hi ((nI_eq (by omega) hi3).mp e).symm), decide_eq_false (p := (-1 : Int32) = nI i) (fun e => nI_nneg hi3 (by decide) e.symm)]
    · rw [r10, if_neg e]
  have ht : tN o o2 N = tN o o1 N + 1 := by
    refine cN_flip (k := q) ?_ ?_ hq (fun i _ hi => ?_)
    · show (decide _ && (decide (o1 8 q = 1) || decide (o1 8 q = 2))) = false
      rw [h8]; simp
    · show (decide (o 8 q = 0) && (decide (o2 8 q = 1) || decide (o2 8 q = 2))) = true
      rw [r8, if_pos rfl, g0.1]
      rcases hst with rfl | rfl <;> decide
    · show (decide _ && (decide (o2 8 i = 1) || decide (o2 8 i = 2))) = _
      rw [r8, if_neg hi]
  refine ⟨⟨⟨fun i hi => ?_, rr.1.trans w1, rr.2.1.trans w2, rr.2.2.1.trans w4, rr.2.2.2.1.trans w5, rr.2.2.2.2.1.trans w6, rr.2.2.2.2.2.trans w7⟩, fun k hk => ?_, fun i hi => ?_, ?_, ?_, ?_⟩, hh, hi2⟩
  · rw [r0, if_neg hi]; exact w0 i hi
  · by_cases e : k = q
    · subst e
      right
      refine ⟨g0.1, ?_, ⟨j, hj, by rw [r10, if_pos rfl]⟩, ?_⟩
      · rw [r9, if_pos rfl, w0 0 (by decide), hnt0]
      · rcases hwhy with ⟨rfl, h⟩ | ⟨rfl, h⟩
        · exact Or.inl ⟨by rw [r8, if_pos rfl]; rfl, h⟩
        · exact Or.inr ⟨by rw [r8, if_pos rfl]; rfl, h⟩
    · unfold CW
      rw [r8, r9, r10, if_neg e, if_neg e, if_neg e]
      exact hcw k hk
  · obtain ⟨z, hz, e1, e2⟩ := ho i hi
    by_cases e : i = j
    · subst e
      rw [e1] at hoil
      have hcz : c ≤ z := by
        have h9 := Int32.not_lt.mp hoil
        exact (nI_leI (by omega) (by omega)).mp h9
      refine ⟨z - c, ?_, ?_, ?_⟩
      · rw [hh, mul_succ']; omega
      · rw [r3, if_pos rfl, e1]; exact pk_sub hcz
      · rw [e2, hh, mul_succ']; congr 1; omega
    · exact ⟨z, by rw [hi2 i (by omega) e]; exact hz, by rw [r3, if_neg e]; exact e1, by rw [hi2 i (by omega) e]; exact e2⟩
  · rw [r0, if_pos rfl, hu, ht, mul_succ', ← nI_add, Int32.add_assoc]
  · rw [ht, ← hs]
    exact sN_one (j := j) hh hj (fun i hi hn => hi2 i (by omega) hn)
  · rw [ht]
    rcases hst with rfl | rfl
    · have e1 : cN (fun k => decide (o2 8 k = 1)) N = cN (fun k => decide (o1 8 k = 1)) N + 1 :=
        cN_flip (k := q) (by rw [h8]; decide) (by rw [r8, if_pos rfl]; decide) hq (fun i _ hi => by rw [r8, if_neg hi])
      have e2 : cN (fun k => decide (o2 8 k = 2)) N = cN (fun k => decide (o1 8 k = 2)) N :=
        cN_congr (fun k _ => by
          by_cases e : k = q
          · subst e; rw [r8, if_pos rfl, h8]; decide
          · rw [r8, if_neg e])
      rw [e1, e2]; omega
    · have e1 : cN (fun k => decide (o2 8 k = 2)) N = cN (fun k => decide (o1 8 k = 2)) N + 1 :=
        cN_flip (k := q) (by rw [h8]; decide) (by rw [r8, if_pos rfl]; decide) hq (fun i _ hi => by rw [r8, if_neg hi])
      have e2 : cN (fun k => decide (o2 8 k = 1)) N = cN (fun k => decide (o1 8 k = 1)) N :=
        cN_congr (fun k _ => by
          by_cases e : k = q
          · subst e; rw [r8, if_pos rfl, h8]; decide
          · rw [r8, if_neg e])
      rw [e1, e2]; omega
end WK
