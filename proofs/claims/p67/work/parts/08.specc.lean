/-! what the office's methods do, of its contents o -/
def setC (o : Nat → Nat → Int32) (i k : Nat) (v : Int32) : Nat → Nat → Int32 := va_up o i (va_up (o i) k v)
/-- the least f below m among p, the first of several; with what it has -/
def minF (p : Nat → Bool) (f : Nat → Int32) (n i : Nat) (s : Option Nat × Int32) : Option Nat × Int32 := iter (fun k s => if p k && decide (f k < s.2) then (some k, f k) else s) n i s
def maxF (p : Nat → Bool) (f : Nat → Int32) (n i : Nat) (s : Option Nat × Int32) : Option Nat × Int32 := iter (fun k s => if p k && decide (s.2 < f k) then (some k, f k) else s) n i s
theorem minF_step {p : Nat → Bool} {f : Nat → Int32} {N k : Nat} {b : Option Nat} {x : Int32} (h : k < N) : minF p f (N - k) k (b, x) = minF p f (N - (k + 1)) (k + 1) (if p k && decide (f k < x) then (some k, f k) else (b, x)) := iter_step h
theorem maxF_step {p : Nat → Bool} {f : Nat → Int32} {N k : Nat} {b : Option Nat} {x : Int32} (h : k < N) : maxF p f (N - k) k (b, x) = maxF p f (N - (k + 1)) (k + 1) (if p k && decide (x < f k) then (some k, f k) else (b, x)) := iter_step h
theorem minF_done {p : Nat → Bool} {f : Nat → Int32} {N k : Nat} {s : Option Nat × Int32} (h : N ≤ k) : minF p f (N - k) k s = s := iter_done h
theorem maxF_done {p : Nat → Bool} {f : Nat → Int32} {N k : Nat} {s : Option Nat × Int32} (h : N ≤ k) : maxF p f (N - k) k s = s := iter_done h
def maskI (p : Nat → Bool) (n i : Nat) (x : Int32) : Int32 := iter (fun q acc => if p q then acc ||| 1 <<< (nI q &&& 31) else acc) n i x
theorem maskI_step {p : Nat → Bool} {N k : Nat} {x : Int32} (h : k < N) : maskI p (N - k) k x = maskI p (N - (k + 1)) (k + 1) (if p k then x ||| 1 <<< (nI k &&& 31) else x) := iter_step h
theorem maskI_done {p : Nat → Bool} {N k : Nat} {x : Int32} (h : N ≤ k) : maskI p (N - k) k x = x := iter_done h
def pileAdd (o : Nat → Nat → Int32) (N : Nat) (pe so an nt : Int32) : Nat → Nat → Int32 :=
  va_up (va_up (va_up (va_up (va_up (va_up (va_up (va_up o 0 (va_up (o 0) 7 (nI (N + 1)))) 4 (va_up (o 4) N pe)) 5 (va_up (o 5) N so)) 6 (va_up (o 6) N an)) 7 (va_up (o 7) N nt)) 8 (va_up (o 8) N 0)) 9 (va_up (o 9) N (-1))) 10 (va_up (o 10) N (-1))
def pileClose (o : Nat → Nat → Int32) (j : Nat) (st nt ck : Int32) : Nat → Nat → Int32 :=
  va_up (va_up (va_up o 8 (va_up (o 8) j st)) 9 (va_up (o 9) j nt)) 10 (va_up (o 10) j ck)
def findC (o : Nat → Nat → Int32) (pe so : Int32) (N : Nat) : Option Nat := ffind (fun k => decide (o 8 k = 0) && decide (o 4 k = pe) && decide (o 5 k = so)) N 0
def firstC (o : Nat → Nat → Int32) (z : Int32) (N : Nat) : Option Nat := (minF (fun k => decide (o 8 k = 0)) (o 7) N 0 (none, z + 1)).1
def mostC (o : Nat → Nat → Int32) (b : Int32) (N : Nat) : Option Nat := (maxF (fun k => decide (o 8 k = 0) && decide ((b >>> (o 5 k &&& 31)) &&& 1 = 1)) (o 6) N 0 (none, 0)).1
/-- one complaint grows older, the next night being z -/
def growC (z : Int32) (k : Nat) (o : Nat → Nat → Int32) : Nat → Nat → Int32 :=
  if o 8 k = 0 then
    (if z - o 7 k = 56 then pileClose (if z - o 7 k - (z - o 7 k) / 7 * 7 = 0 then va_up o 6 (va_up (o 6) k (if o 6 k + 1 < 9 then o 6 k + 1 else 9)) else o) k 3 z (-1)
     else (if z - o 7 k - (z - o 7 k) / 7 * 7 = 0 then va_up o 6 (va_up (o 6) k (if o 6 k + 1 < 9 then o 6 k + 1 else 9)) else o))
  else o
def staffAdd (o : Nat → Nat → Int32) (K : Nat) (sk oi : Int32) : Nat → Nat → Int32 :=
  va_up (va_up (va_up o 0 (va_up (o 0) 5 (nI (K + 1)))) 2 (va_up (o 2) K sk)) 3 (va_up (o 3) K oi)
def burnC (o : Nat → Nat → Int32) (j : Nat) (z : Int32) : Nat → Nat → Int32 :=
  va_up (va_up o 0 (va_up (o 0) 6 (o 0 6 + z))) 3 (va_up (o 3) j (o 3 j - z))
theorem minF_lt {p : Nat → Bool} {f : Nat → Int32} : ∀ {n i : Nat} {s : Option Nat × Int32} {j : Nat}, (minF p f n i s).1 = some j → (s.1 = some j ∨ (i ≤ j ∧ j < i + n ∧ p j = true))
  | 0, _, _, _, h => Or.inl h
  | n + 1, i, s, j, h => by
    have h' : (minF p f n (i + 1) (if p i && decide (f i < s.2) then (some i, f i) else s)).1 = some j := h
    rcases minF_lt h' with g | ⟨g1, g2, g3⟩
    · split at g
      · rename_i hc
        obtain rfl := Option.some.inj g
        exact Or.inr ⟨Nat.le_refl _, by omega, by revert hc; cases p i <;> simp⟩
      · exact Or.inl g
    · exact Or.inr ⟨by omega, by omega, g3⟩
theorem maxF_lt {p : Nat → Bool} {f : Nat → Int32} : ∀ {n i : Nat} {s : Option Nat × Int32} {j : Nat}, (maxF p f n i s).1 = some j → (s.1 = some j ∨ (i ≤ j ∧ j < i + n ∧ p j = true))
  | 0, _, _, _, h => Or.inl h
  | n + 1, i, s, j, h => by
    have h' : (maxF p f n (i + 1) (if p i && decide (s.2 < f i) then (some i, f i) else s)).1 = some j := h
    rcases maxF_lt h' with g | ⟨g1, g2, g3⟩
    · split at g
      · rename_i hc
        obtain rfl := Option.some.inj g
        exact Or.inr ⟨Nat.le_refl _, by omega, by revert hc; cases p i <;> simp⟩
      · exact Or.inl g
    · exact Or.inr ⟨by omega, by omega, g3⟩
theorem firstC_lt {o : Nat → Nat → Int32} {z : Int32} {N j : Nat} (h : firstC o z N = some j) : j < N ∧ o 8 j = 0 := by
  rcases minF_lt h with g | ⟨_, g2, g3⟩
  · cases g
  · exact ⟨by omega, by simpa using g3⟩
theorem mostC_lt {o : Nat → Nat → Int32} {z : Int32} {N j : Nat} (h : mostC o z N = some j) : j < N ∧ o 8 j = 0 := by
  rcases maxF_lt h with g | ⟨_, g2, g3⟩
  · cases g
  · exact ⟨by omega, by simp at g3; exact g3.1⟩
theorem findC_lt {o : Nat → Nat → Int32} {pe so : Int32} {N j : Nat} (h : findC o pe so N = some j) : j < N ∧ o 8 j = 0 ∧ o 4 j = pe ∧ o 5 j = so := by
  obtain ⟨_, g2, g3⟩ := ffind_lt h
  simp at g3
  exact ⟨by omega, g3.1.1, g3.1.2, g3.2⟩
/-- a clerk's night: at most n complaints more; the answers and the office -/
def workC (N j : Nat) (bits cost : Int32) : Nat → Int32 → (Nat → Nat → Int32) → Int32 × (Nat → Nat → Int32)
  | 0, x, o => (x, o)
  | n + 1, x, o =>
    if o 3 j < cost then (x, o)
    else match mostC o bits N with
      | some q => workC N j bits cost n (x + 1) (burnC (pileClose o q 1 (o 0 0) (nI j)) j cost)
      | none => match firstC o (o 0 0 - 14) N with
        | some q => workC N j bits cost n x (burnC (pileClose o q 2 (o 0 0) (nI j)) j cost)
        | none => (x, o)
theorem workC_lt {N j n : Nat} {bits cost x : Int32} {o : Nat → Nat → Int32} (h : o 3 j < cost) : workC N j bits cost n x o = (x, o) := by
  cases n with
  | zero => rfl
  | succ n => simp only [workC]; rw [if_pos h]
theorem workC_some {N j n : Nat} {bits cost x : Int32} {o : Nat → Nat → Int32} {q : Nat} (h : ¬ o 3 j < cost) (hq : mostC o bits N = some q) : workC N j bits cost (n + 1) x o = workC N j bits cost n (x + 1) (burnC (pileClose o q 1 (o 0 0) (nI j)) j cost) := by
  simp only [workC]; rw [if_neg h, hq]
theorem workC_old {N j n : Nat} {bits cost x : Int32} {o : Nat → Nat → Int32} {q : Nat} (h : ¬ o 3 j < cost) (hq : mostC o bits N = none) (h2 : firstC o (o 0 0 - 14) N = some q) : workC N j bits cost (n + 1) x o = workC N j bits cost n x (burnC (pileClose o q 2 (o 0 0) (nI j)) j cost) := by
  simp only [workC]; rw [if_neg h, hq]; simp only []; rw [h2]
theorem workC_none {N j n : Nat} {bits cost x : Int32} {o : Nat → Nat → Int32} (hq : mostC o bits N = none) (h2 : firstC o (o 0 0 - 14) N = none) : workC N j bits cost n x o = (x, o) := by
  cases n with
  | zero => rfl
  | succ n => simp only [workC]; split; rfl; rw [hq]; simp only []; rw [h2]
/-- what a clerk's night leaves as it was -/
theorem workC_keep {N j : Nat} {bits cost : Int32} : ∀ {n : Nat} {x : Int32} {o : Nat → Nat → Int32}, (workC N j bits cost n x o).2 2 = o 2 ∧ (workC N j bits cost n x o).2 1 = o 1 ∧ (∀ i, i ≠ 6 → (workC N j bits cost n x o).2 0 i = o 0 i) ∧ (workC N j bits cost n x o).2 7 = o 7 ∧ (workC N j bits cost n x o).2 4 = o 4 ∧ (workC N j bits cost n x o).2 5 = o 5 ∧ (workC N j bits cost n x o).2 6 = o 6
  | 0, x, o => ⟨rfl, rfl, fun _ _ => rfl, rfl, rfl, rfl, rfl⟩
  | n + 1, x, o => by
    by_cases h : o 3 j < cost
    · rw [workC_lt h]; exact ⟨rfl, rfl, fun _ _ => rfl, rfl, rfl, rfl, rfl⟩
    · cases h1 : mostC o bits N with
      | some q =>
        rw [workC_some h h1]
        obtain ⟨g1, g2, g3, g4, g5, g6, g7⟩ := workC_keep (N := N) (j := j) (bits := bits) (cost := cost) (n := n) (x := x + 1) (o := burnC (pileClose o q 1 (o 0 0) (nI j)) j cost)
        refine ⟨g1, g2, fun i hi => (g3 i hi).trans ?_, g4, g5, g6, g7⟩
        show (if i = 6 then _ else o 0 i) = o 0 i
        rw [if_neg hi]
      | none =>
        cases h2 : firstC o (o 0 0 - 14) N with
        | some q =>
          rw [workC_old h h1 h2]
          obtain ⟨g1, g2, g3, g4, g5, g6, g7⟩ := workC_keep (N := N) (j := j) (bits := bits) (cost := cost) (n := n) (x := x) (o := burnC (pileClose o q 2 (o 0 0) (nI j)) j cost)
          refine ⟨g1, g2, fun i hi => (g3 i hi).trans ?_, g4, g5, g6, g7⟩
          show (if i = 6 then _ else o 0 i) = o 0 i
          rw [if_neg hi]
        | none => rw [workC_none h1 h2]; exact ⟨rfl, rfl, fun _ _ => rfl, rfl, rfl, rfl, rfl⟩
def clerksC (N : Nat) (bits cost : Int32) (j : Nat) (s : Int32 × (Nat → Nat → Int32)) : Int32 × (Nat → Nat → Int32) :=
  (s.1 + (workC N j bits cost (1 + s.2 2 j / 3).toNatClampNeg 0 s.2).1, (workC N j bits cost (1 + s.2 2 j / 3).toNatClampNeg 0 s.2).2)
theorem clerksC_keep {N : Nat} {bits cost : Int32} : ∀ {n i : Nat} {s : Int32 × (Nat → Nat → Int32)}, (iter (clerksC N bits cost) n i s).2 2 = s.2 2 ∧ (iter (clerksC N bits cost) n i s).2 1 = s.2 1 ∧ (∀ i2, i2 ≠ 6 → (iter (clerksC N bits cost) n i s).2 0 i2 = s.2 0 i2)
  | 0, _, _ => ⟨rfl, rfl, fun _ _ => rfl⟩
  | n + 1, i, s => by
    obtain ⟨g1, g2, g3⟩ := clerksC_keep (N := N) (bits := bits) (cost := cost) (n := n) (i := i + 1) (s := clerksC N bits cost i s)
    obtain ⟨k1, k2, k3, -⟩ := workC_keep (N := N) (j := i) (bits := bits) (cost := cost) (n := (1 + s.2 2 i / 3).toNatClampNeg) (x := 0) (o := s.2)
    exact ⟨g1.trans k1, g2.trans k2, fun i2 h => (g3 i2 h).trans (k3 i2 h)⟩
def bitsC (C k : Nat) (o : Nat → Nat → Int32) : Int32 := maskI (fun q => justB q (o 0 1) (o 0 2) (o 0 3) k (o 1 (k % C))) 4 0 0
def costC (C k : Nat) (o : Nat → Nat → Int32) : Int32 := 6 - visI k (o 1 (k % C)) / 3
def clerksNightC (N K C k : Nat) (o : Nat → Nat → Int32) : Int32 × (Nat → Nat → Int32) := iter (clerksC N (bitsC C k o) (costC C k o)) K 0 (0, o)
def nightC (N K C k : Nat) (o : Nat → Nat → Int32) : Int32 × (Nat → Nat → Int32) :=
  ((clerksNightC N K C k o).1, iter (growC (nI (k + 1))) N 0 (va_up (clerksNightC N K C k o).2 0 (va_up ((clerksNightC N K C k o).2 0) 0 (nI (k + 1)))))
def clearC (o : Nat → Nat → Int32) : Nat → Nat → Int32 := va_up o 0 (va_up (va_up (va_up (va_up (va_up (o 0) 0 0) 4 0) 5 0) 6 0) 7 0)
theorem growC_keep {z : Int32} {k : Nat} {o : Nat → Nat → Int32} : (growC z k o) 0 = o 0 ∧ (growC z k o) 1 = o 1 ∧ (growC z k o) 2 = o 2 ∧ (growC z k o) 3 = o 3 ∧ (growC z k o) 4 = o 4 ∧ (growC z k o) 5 = o 5 ∧ (growC z k o) 7 = o 7 := by
  unfold growC pileClose
  split
  · split <;> split <;> exact ⟨rfl, rfl, rfl, rfl, rfl, rfl, rfl⟩
  · exact ⟨rfl, rfl, rfl, rfl, rfl, rfl, rfl⟩
theorem grows_keep {z : Int32} : ∀ {n i : Nat} {o : Nat → Nat → Int32}, (iter (growC z) n i o) 0 = o 0 ∧ (iter (growC z) n i o) 1 = o 1 ∧ (iter (growC z) n i o) 2 = o 2 ∧ (iter (growC z) n i o) 3 = o 3 ∧ (iter (growC z) n i o) 4 = o 4 ∧ (iter (growC z) n i o) 5 = o 5 ∧ (iter (growC z) n i o) 7 = o 7
  | 0, _, _ => ⟨rfl, rfl, rfl, rfl, rfl, rfl, rfl⟩
  | n + 1, i, o => by
    obtain ⟨g1, g2, g3, g4, g5, g6, g7⟩ := grows_keep (z := z) (n := n) (i := i + 1) (o := growC z i o)
    obtain ⟨k1, k2, k3, k4, k5, k6, k7⟩ := growC_keep (z := z) (k := i) (o := o)
    exact ⟨g1.trans k1, g2.trans k2, g3.trans k3, g4.trans k4, g5.trans k5, g6.trans k6, g7.trans k7⟩
