/-! what the reference's static methods do, of a row r -/
def rg (z a b : Int32) : Bool := decide (a ≤ z) && decide (z ≤ b)
def rCloses (r : Nat → Int32) (j : Nat) (st ck : Int32) : Nat → Int32 :=
  va_up (va_up (va_up r (34 + 7 * j + 4) st) (34 + 7 * j + 5) ((va_up r (34 + 7 * j + 4) st) 0)) (34 + 7 * j + 6) ck
def rAddsCloud (r : Nat → Int32) (C : Nat) (z : Int32) : Nat → Int32 := va_up (va_up r (9 + C) z) 4 ((va_up r (9 + C) z) 4 + 1)
def rAddsClerk (r : Nat → Int32) (K : Nat) (sk oi : Int32) : Nat → Int32 :=
  va_up (va_up (va_up (va_up r (19 + 3 * K) sk) (19 + 3 * K + 1) oi) (19 + 3 * K + 2) 0) 5 ((va_up (va_up (va_up r (19 + 3 * K) sk) (19 + 3 * K + 1) oi) (19 + 3 * K + 2) 0) 5 + 1)
def rFiles7 (r : Nat → Int32) (N : Nat) (pe so an : Int32) : Nat → Int32 :=
  va_up (va_up (va_up (va_up (va_up (va_up (va_up r (34 + 7 * N) pe) (34 + 7 * N + 1) so) (34 + 7 * N + 2) an) (34 + 7 * N + 3) ((va_up (va_up (va_up r (34 + 7 * N) pe) (34 + 7 * N + 1) so) (34 + 7 * N + 2) an) 0)) (34 + 7 * N + 4) 0) (34 + 7 * N + 5) (-1)) (34 + 7 * N + 6) (-1)
def rFiles (r : Nat → Int32) (N : Nat) (pe so an : Int32) : Nat → Int32 := va_up (rFiles7 r N pe so an) 6 (rFiles7 r N pe so an 6 + 1)
def findR (r : Nat → Int32) (pe so : Int32) (N : Nat) : Option Nat := ffind (fun k => decide (r (34 + 7 * k + 4) = 0) && decide (r (34 + 7 * k) = pe) && decide (r (34 + 7 * k + 1) = so)) N 0
def justR (r : Nat → Int32) (C nt k : Nat) : Bool := justB (r (34 + 7 * k + 1)).toNatClampNeg (r 1) (r 2) (r 3) nt (r (9 + nt % C))
def angR (r : Nat → Int32) (N C nt : Nat) : Option Nat := bestB (fun k => decide (r (34 + 7 * k + 4) = 0) && justR r C nt k) (fun k j => decide (r (34 + 7 * j + 2) < r (34 + 7 * k + 2))) N 0 none
def oldR (r : Nat → Int32) (N : Nat) : Option Nat := bestB (fun k => decide (r (34 + 7 * k + 4) = 0)) (fun k j => decide (r (34 + 7 * k + 3) < r (34 + 7 * j + 3))) N 0 none
theorem angR_lt {r : Nat → Int32} {N C nt j : Nat} (h : angR r N C nt = some j) : j < N ∧ r (34 + 7 * j + 4) = 0 := by
  rcases bestB_lt h with g | ⟨_, g2, g3⟩
  · cases g
  · simp at g3; exact ⟨by omega, g3.1⟩
theorem oldR_lt {r : Nat → Int32} {N j : Nat} (h : oldR r N = some j) : j < N ∧ r (34 + 7 * j + 4) = 0 := by
  rcases bestB_lt h with g | ⟨_, g2, g3⟩
  · cases g
  · simp at g3; exact ⟨by omega, g3⟩
theorem findR_lt {r : Nat → Int32} {pe so : Int32} {N j : Nat} (h : findR r pe so N = some j) : j < N ∧ r (34 + 7 * j + 4) = 0 ∧ r (34 + 7 * j) = pe ∧ r (34 + 7 * j + 1) = so := by
  obtain ⟨_, g2, g3⟩ := ffind_lt h
  simp at g3
  exact ⟨by omega, g3.1.1, g3.1.2, g3.2⟩
def rAns (r : Nat → Int32) (q j : Nat) : Nat → Int32 :=
  va_up (va_up (rCloses r q 1 (nI j)) (19 + 3 * j + 2) (rCloses r q 1 (nI j) (19 + 3 * j + 2) + 1)) 8 ((va_up (rCloses r q 1 (nI j)) (19 + 3 * j + 2) (rCloses r q 1 (nI j) (19 + 3 * j + 2) + 1)) 8 + (va_up (rCloses r q 1 (nI j)) (19 + 3 * j + 2) (rCloses r q 1 (nI j) (19 + 3 * j + 2) + 1)) (34 + 7 * q + 2))
def rHandles (N C nt : Nat) (r : Nat → Int32) (j : Nat) : Bool × (Nat → Int32) :=
  match angR r N C nt with
  | some q => (true, rAns r q j)
  | none => match oldR r N with
    | some q => if 14 ≤ r 0 - r (34 + 7 * q + 3) then (true, rCloses r q 2 (nI j)) else (false, r)
    | none => (false, r)
theorem rHandles_some {N C nt j q : Nat} {r : Nat → Int32} (h : angR r N C nt = some q) : rHandles N C nt r j = (true, rAns r q j) := by simp only [rHandles, h]
theorem rHandles_old {N C nt j q : Nat} {r : Nat → Int32} (h : angR r N C nt = none) (h2 : oldR r N = some q) (h3 : 14 ≤ r 0 - r (34 + 7 * q + 3)) : rHandles N C nt r j = (true, rCloses r q 2 (nI j)) := by simp only [rHandles, h, h2]; rw [if_pos h3]
theorem rHandles_young {N C nt j q : Nat} {r : Nat → Int32} (h : angR r N C nt = none) (h2 : oldR r N = some q) (h3 : ¬ 14 ≤ r 0 - r (34 + 7 * q + 3)) : rHandles N C nt r j = (false, r) := by simp only [rHandles, h, h2]; rw [if_neg h3]
theorem rHandles_none {N C nt j : Nat} {r : Nat → Int32} (h : angR r N C nt = none) (h2 : oldR r N = none) : rHandles N C nt r j = (false, r) := by simp only [rHandles, h, h2]
theorem rHandles_f {N C nt j : Nat} {r : Nat → Int32} (h : (rHandles N C nt r j).1 = false) : (rHandles N C nt r j).2 = r := by
  unfold rHandles at h ⊢
  split at h
  · cases h
  · split at h
    · split at h
      · cases h
      · rename_i h3; rw [if_neg h3]
    · rfl
def rBurn (r : Nat → Int32) (j : Nat) (z : Int32) : Nat → Int32 :=
  va_up (va_up r (19 + 3 * j + 1) (r (19 + 3 * j + 1) - z)) 7 ((va_up r (19 + 3 * j + 1) (r (19 + 3 * j + 1) - z)) 7 + z)
def rWorks (N C nt j : Nat) (cost : Int32) : Nat → (Nat → Int32) → (Nat → Int32)
  | 0, r => r
  | n + 1, r => if r (19 + 3 * j + 1) < cost then r else if (rHandles N C nt r j).1 then rWorks N C nt j cost n (rBurn (rHandles N C nt r j).2 j cost) else r
theorem rWorks_lt {N C nt j n : Nat} {cost : Int32} {r : Nat → Int32} (h : r (19 + 3 * j + 1) < cost) : rWorks N C nt j cost n r = r := by
  cases n with
  | zero => rfl
  | succ n => simp only [rWorks]; rw [if_pos h]
theorem rWorks_f {N C nt j n : Nat} {cost : Int32} {r : Nat → Int32} (h : (rHandles N C nt r j).1 = false) : rWorks N C nt j cost n r = r := by
  cases n with
  | zero => rfl
  | succ n => simp only [rWorks, h]; split <;> rfl
theorem rWorks_t {N C nt j n : Nat} {cost : Int32} {r : Nat → Int32} (h : ¬ r (19 + 3 * j + 1) < cost) (h2 : (rHandles N C nt r j).1 = true) : rWorks N C nt j cost (n + 1) r = rWorks N C nt j cost n (rBurn (rHandles N C nt r j).2 j cost) := by
  simp only [rWorks, h2]; rw [if_neg h]; rfl
def rGrow (k : Nat) (r : Nat → Int32) : Nat → Int32 :=
  if r 0 - r (34 + 7 * k + 3) = 56 then rCloses (if r 0 - r (34 + 7 * k + 3) - (r 0 - r (34 + 7 * k + 3)) / 7 * 7 = 0 then va_up r (34 + 7 * k + 2) (if 9 < r (34 + 7 * k + 2) + 1 then 9 else r (34 + 7 * k + 2) + 1) else r) k 3 (-1)
  else (if r 0 - r (34 + 7 * k + 3) - (r 0 - r (34 + 7 * k + 3)) / 7 * 7 = 0 then va_up r (34 + 7 * k + 2) (if 9 < r (34 + 7 * k + 2) + 1 then 9 else r (34 + 7 * k + 2) + 1) else r)
def rGrows (k : Nat) (r : Nat → Int32) : Nat → Int32 := if r (34 + 7 * k + 4) = 0 then rGrow k r else r
def costR (C nt : Nat) (r : Nat → Int32) : Int32 := 6 - visI nt (r (9 + nt % C)) / 3
def rClerks (N C nt : Nat) (j : Nat) (r : Nat → Int32) : Nat → Int32 := rWorks N C nt j (costR C nt r) (1 + r (19 + 3 * j) / 3).toNatClampNeg r
def cntR (r : Nat → Int32) (st : Int32) (N : Nat) : Int32 := cntI (fun k => decide (r (34 + 7 * k + 4) = st)) N 0 0
def rEnds2 (N K C nt : Nat) (r : Nat → Int32) : Nat → Int32 := va_up (iter (rClerks N C nt) K 0 r) 0 ((iter (rClerks N C nt) K 0 r) 0 + 1)
def rEnds (N K C nt : Nat) (r : Nat → Int32) : Nat → Int32 := iter rGrows N 0 (rEnds2 N K C nt r)
def rLay (r1 : Nat → Int32) (beg pl : Nat) (r2 : Nat → Int32) : Nat → Int32 := iter (fun k f => va_up f (pl + k) (r1 (beg + k))) 202 0 r2
def rLayS (beg pl : Nat) (r : Nat → Int32) : Nat → Int32 := iter (fun k f => va_up f (pl + k) (f (beg + k))) 202 0 r
/-- what the nights' work leaves of a row: night, limits, numbers, clouds, skills, persons, sorts, nights of filing -/
def KR (r r' : Nat → Int32) : Prop := (∀ i, i ≤ 6 → r' i = r i) ∧ (∀ i, 9 ≤ i → i < 19 → r' i = r i) ∧ (∀ j, r' (19 + 3 * j) = r (19 + 3 * j) ∨ 5 ≤ j) ∧ ∀ k, r' (34 + 7 * k) = r (34 + 7 * k) ∧ r' (34 + 7 * k + 1) = r (34 + 7 * k + 1) ∧ r' (34 + 7 * k + 2) = r (34 + 7 * k + 2) ∧ r' (34 + 7 * k + 3) = r (34 + 7 * k + 3)
theorem KR.rfl {r : Nat → Int32} : KR r r := ⟨fun _ _ => _root_.rfl, fun _ _ _ => _root_.rfl, fun _ => Or.inl _root_.rfl, fun _ => ⟨_root_.rfl, _root_.rfl, _root_.rfl, _root_.rfl⟩⟩
theorem KR.trans {r r' r'' : Nat → Int32} (h : KR r r') (h2 : KR r' r'') : KR r r'' :=
  ⟨fun i hi => (h2.1 i hi).trans (h.1 i hi), fun i hi hj => (h2.2.1 i hi hj).trans (h.2.1 i hi hj), fun j => (h2.2.2.1 j).elim (fun a => (h.2.2.1 j).elim (fun b => Or.inl (a.trans b)) Or.inr) Or.inr,
   fun k => ⟨(h2.2.2.2 k).1.trans (h.2.2.2 k).1, (h2.2.2.2 k).2.1.trans (h.2.2.2 k).2.1, (h2.2.2.2 k).2.2.1.trans (h.2.2.2 k).2.2.1, (h2.2.2.2 k).2.2.2.trans (h.2.2.2 k).2.2.2⟩⟩
theorem KR.up {r r' : Nat → Int32} {a : Nat} {x : Int32} (h : KR r r') (ha : a = 7 ∨ a = 8 ∨ (∃ j, j < 5 ∧ (a = 19 + 3 * j + 1 ∨ a = 19 + 3 * j + 2)) ∨ ∃ k, a = 34 + 7 * k + 4 ∨ a = 34 + 7 * k + 5 ∨ a = 34 + 7 * k + 6) : KR r (va_up r' a x) := by
  have e : ∀ i, i ≠ a → va_up r' a x i = r' i := fun i hi => if_neg hi
  refine ⟨fun i hi => (e i ?_).trans (h.1 i hi), fun i hi hj => (e i ?_).trans (h.2.1 i hi hj), fun j => ?_, fun k => ⟨(e _ ?_).trans (h.2.2.2 k).1, (e _ ?_).trans (h.2.2.2 k).2.1, (e _ ?_).trans (h.2.2.2 k).2.2.1, (e _ ?_).trans (h.2.2.2 k).2.2.2⟩⟩
  · rcases ha with h1 | h1 | ⟨q, _, h1 | h1⟩ | ⟨q, h1 | h1 | h1⟩ <;> omega
  · rcases ha with h1 | h1 | ⟨q, _, h1 | h1⟩ | ⟨q, h1 | h1 | h1⟩ <;> omega
  · by_cases hj : 5 ≤ j
    · exact Or.inr hj
    · refine Or.inl ((e _ ?_).trans ((h.2.2.1 j).resolve_right hj))
      rcases ha with h1 | h1 | ⟨q, _, h1 | h1⟩ | ⟨q, h1 | h1 | h1⟩ <;> omega
  all_goals rcases ha with h1 | h1 | ⟨q, _, h1 | h1⟩ | ⟨q, h1 | h1 | h1⟩ <;> omega
theorem KR.closes {r r' : Nat → Int32} {k : Nat} {x y : Int32} (h : KR r r') : KR r (rCloses r' k x y) :=
  ((h.up (Or.inr (Or.inr (Or.inr ⟨k, Or.inl _root_.rfl⟩)))).up (Or.inr (Or.inr (Or.inr ⟨k, Or.inr (Or.inl _root_.rfl)⟩)))).up (Or.inr (Or.inr (Or.inr ⟨k, Or.inr (Or.inr _root_.rfl)⟩)))
theorem KR.ans {r r' : Nat → Int32} {q j : Nat} (h : KR r r') (hj : j < 5) : KR r (rAns r' q j) :=
  ((h.closes).up (Or.inr (Or.inr (Or.inl ⟨j, hj, Or.inr _root_.rfl⟩)))).up (Or.inr (Or.inl _root_.rfl))
theorem KR.handles {r r' : Nat → Int32} {N C nt j : Nat} (h : KR r r') (hj : j < 5) : KR r (rHandles N C nt r' j).2 := by
  unfold rHandles
  split
  · exact h.ans hj
  · split
    · split
      · exact h.closes
      · exact h
    · exact h
theorem KR.burn {r r' : Nat → Int32} {j : Nat} {z : Int32} (h : KR r r') (hj : j < 5) : KR r (rBurn r' j z) :=
  (h.up (Or.inr (Or.inr (Or.inl ⟨j, hj, Or.inl _root_.rfl⟩)))).up (Or.inl _root_.rfl)
theorem KR.works {N C nt j : Nat} {cost : Int32} (hj : j < 5) : ∀ {n : Nat} {r r' : Nat → Int32}, KR r r' → KR r (rWorks N C nt j cost n r')
  | 0, _, _, h => h
  | n + 1, r, r', h => by
    simp only [rWorks]
    split
    · exact h
    · split
      · exact KR.works hj ((h.handles hj).burn hj)
      · exact h
theorem KR.clerks {N C nt : Nat} : ∀ {n i : Nat} {r r' : Nat → Int32}, i + n ≤ 5 → KR r r' → KR r (iter (rClerks N C nt) n i r')
  | 0, _, _, _, _, h => h
  | n + 1, i, r, r', hi, h => KR.clerks (n := n) (i := i + 1) (by omega) (KR.works (by omega) h)
theorem rCloses_lo {r : Nat → Int32} {k i : Nat} {x y : Int32} (hi : i < 34) : rCloses r k x y i = r i := by
  unfold rCloses
  rw [va_up_ne _ _ (by omega), va_up_ne _ _ (by omega), va_up_ne _ _ (by omega)]
theorem rGrow_lo {r : Nat → Int32} {k i : Nat} (hi : i < 34) : rGrow k r i = r i := by
  unfold rGrow
  split <;> split <;> (try rw [rCloses_lo hi]) <;> (try rw [va_up_ne _ _ (by omega)]) <;> (try rfl)
theorem rGrows_lo {r : Nat → Int32} {k i : Nat} (hi : i < 34) : rGrows k r i = r i := by
  unfold rGrows
  split
  · exact rGrow_lo hi
  · rfl
theorem rGrowsAll_lo {i : Nat} (hi : i < 34) : ∀ {n k : Nat} {r : Nat → Int32}, iter rGrows n k r i = r i
  | 0, _, _ => rfl
  | n + 1, k, r => (rGrowsAll_lo hi (n := n) (k := k + 1) (r := rGrows k r)).trans (rGrows_lo hi)
