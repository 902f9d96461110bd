/-! what the reference's static methods do, of a row r -/
def rCloses (r : Nat → Int32) (j : Nat) (st ck : Int32) : Nat → Int32 :=
  va_up (va_up (va_up r (34 + 7 * j + 4) st) (34 + 7 * j + 5) ((va_up r (34 + 7 * j + 4) st) 0)) (34 + 7 * j + 6) ck
def rAddsCloud (r : Nat → Int32) (C : Nat) (z : Int32) : Nat → Int32 := va_up (va_up r (9 + C) z) 4 ((va_up r (9 + C) z) 4 + 1)
def rAddsClerk (r : Nat → Int32) (K : Nat) (sk oi : Int32) : Nat → Int32 :=
  va_up (va_up (va_up (va_up r (19 + 3 * K) sk) (19 + 3 * K + 1) oi) (19 + 3 * K + 2) 0) 5 ((va_up (va_up (va_up r (19 + 3 * K) sk) (19 + 3 * K + 1) oi) (19 + 3 * K + 2) 0) 5 + 1)
def rFiles7 (r : Nat → Int32) (N : Nat) (pe so an : Int32) : Nat → Int32 :=
  va_up (va_up (va_up (va_up (va_up (va_up (va_up r (34 + 7 * N) pe) (34 + 7 * N + 1) so) (34 + 7 * N + 2) an) (34 + 7 * N + 3) ((va_up (va_up (va_up r (34 + 7 * N) pe) (34 + 7 * N + 1) so) (34 + 7 * N + 2) an) 0)) (34 + 7 * N + 4) 0) (34 + 7 * N + 5) (-1)) (34 + 7 * N + 6) (-1)
def rFiles (r : Nat → Int32) (N : Nat) (pe so an : Int32) : Nat → Int32 := va_up (rFiles7 r N pe so an) 6 (rFiles7 r N pe so an 6 + 1)
def findR (r : Nat → Int32) (pe so : Int32) (N : Nat) : Option Nat := ffind (fun k => decide (r (34 + 7 * k + 4) = 0) && decide (r (34 + 7 * k) = pe) && decide (r (34 + 7 * k + 1) = so)) N 0
def justR (r : Nat → Int32) (C nt k : Nat) : Bool := justB (r (34 + 7 * k + 1)).toNatClampNeg (r 1) (r 2) (r 3) nt (r (9 + nt % C))
def angR (r : Nat → Int32) (N C nt : Nat) : Option Nat := bestB (fun k => decide (r (34 + 7 * k + 4) = 0) && justR r C nt k) (fun k j => decide (r (34 + 7 * j + 2) < r (34 + 7 * k + 2))) N 0 none
def oldR (r : Nat → Int32) (N : Nat) : Option Nat := bestB (fun k => decide (r (34 + 7 * k + 4) = 0)) (fun k j => decide (r (34 + 7 * k + 3) < r (34 + 7 * j + 3))) N 0 none
theorem angR_lt {r : Nat → Int32} {N C nt j : Nat} (h : angR r N C nt = some j) : j < N ∧ r (34 + 7 * j + 4) = 0 := by
  rcases bestB_lt h with g | ⟨_, g2, g3⟩
  · cases g
  · simp at g3; exact ⟨by omega, g3.1⟩
theorem oldR_lt {r : Nat → Int32} {N j : Nat} (h : oldR r N = some j) : j < N ∧ r (34 + 7 * j + 4) = 0 := by
  rcases bestB_lt h with g | ⟨_, g2, g3⟩
  · cases g
  · simp at g3; exact ⟨by omega, g3⟩
theorem findR_lt {r : Nat → Int32} {pe so : Int32} {N j : Nat} (h : findR r pe so N = some j) : j < N ∧ r (34 + 7 * j + 4) = 0 ∧ r (34 + 7 * j) = pe ∧ r (34 + 7 * j + 1) = so := by
  obtain ⟨_, g2, g3⟩ := ffind_lt h
  simp at g3
  exact ⟨by omega, g3.1.1, g3.1.2, g3.2⟩
def rAns (r : Nat → Int32) (q j : Nat) : Nat → Int32 :=
  va_up (va_up (rCloses r q 1 (nI j)) (19 + 3 * j + 2) (rCloses r q 1 (nI j) (19 + 3 * j + 2) + 1)) 8 ((va_up (rCloses r q 1 (nI j)) (19 + 3 * j + 2) (rCloses r q 1 (nI j) (19 + 3 * j + 2) + 1)) 8 + (va_up (rCloses r q 1 (nI j)) (19 + 3 * j + 2) (rCloses r q 1 (nI j) (19 + 3 * j + 2) + 1)) (34 + 7 * q + 2))
def rHandles (N C nt : Nat) (r : Nat → Int32) (j : Nat) : Bool × (Nat → Int32) :=
  match angR r N C nt with
  | some q => (true, rAns r q j)
  | none => match oldR r N with
    | some q => if 14 ≤ r 0 - r (34 + 7 * q + 3) then (true, rCloses r q 2 (nI j)) else (false, r)
    | none => (false, r)
theorem rHandles_some {N C nt j q : Nat} {r : Nat → Int32} (h : angR r N C nt = some q) : rHandles N C nt r j = (true, rAns r q j) := by simp only [rHandles, h]
theorem rHandles_old {N C nt j q : Nat} {r : Nat → Int32} (h : angR r N C nt = none) (h2 : oldR r N = some q) (h3 : 14 ≤ r 0 - r (34 + 7 * q + 3)) : rHandles N C nt r j = (true, rCloses r q 2 (nI j)) := by simp only [rHandles, h, h2]; rw [if_pos h3]
theorem rHandles_young {N C nt j q : Nat} {r : Nat → Int32} (h : angR r N C nt = none) (h2 : oldR r N = some q) (h3 : ¬ 14 ≤ r 0 - r (34 + 7 * q + 3)) : rHandles N C nt r j = (false, r) := by simp only [rHandles, h, h2]; rw [if_neg h3]
theorem rHandles_none {N C nt j : Nat} {r : Nat → Int32} (h : angR r N C nt = none) (h2 : oldR r N = none) : rHandles N C nt r j = (false, r) := by simp only [rHandles, h, h2]
theorem rHandles_f {N C nt j : Nat} {r : Nat → Int32} (h : (rHandles N C nt r j).1 = false) : (rHandles N C nt r j).2 = r := by
  unfold rHandles at h ⊢
  split at h
  · cases h
  · split at h
    · split at h
      · cases h
      · rename_i h3; rw [if_neg h3]
    · rfl
def rBurn (r : Nat → Int32) (j : Nat) (z : Int32) : Nat → Int32 :=
  va_up (va_up r (19 + 3 * j + 1) (r (19 + 3 * j + 1) - z)) 7 ((va_up r (19 + 3 * j + 1) (r (19 + 3 * j + 1) - z)) 7 + z)
def rWorks (N C nt j : Nat) (cost : Int32) : Nat → (Nat → Int32) → (Nat → Int32)
  | 0, r => r
  | n + 1, r => if r (19 + 3 * j + 1) < cost then r else if (rHandles N C nt r j).1 then rWorks N C nt j cost n (rBurn (rHandles N C nt r j).2 j cost) else r
theorem rWorks_lt {N C nt j n : Nat} {cost : Int32} {r : Nat → Int32} (h : r (19 + 3 * j + 1) < cost) : rWorks N C nt j cost n r = r := by
  cases n with
  | zero => rfl
  | succ n => simp only [rWorks]; rw [if_pos h]
theorem rWorks_f {N C nt j n : Nat} {cost : Int32} {r : Nat → Int32} (h : (rHandles N C nt r j).1 = false) : rWorks N C nt j cost n r = r := by
  cases n with
  | zero => rfl
  | succ n => simp only [rWorks, h]; split <;> rfl
theorem rWorks_t {N C nt j n : Nat} {cost : Int32} {r : Nat → Int32} (h : ¬ r (19 + 3 * j + 1) < cost) (h2 : (rHandles N C nt r j).1 = true) : rWorks N C nt j cost (n + 1) r = rWorks N C nt j cost n (rBurn (rHandles N C nt r j).2 j cost) := by
  simp only [rWorks, h2]; rw [if_neg h]; rfl
def rGrow (k : Nat) (r : Nat → Int32) : Nat → Int32 :=
  if r 0 - r (34 + 7 * k + 3) = 56 then rCloses (if r 0 - r (34 + 7 * k + 3) - (r 0 - r (34 + 7 * k + 3)) / 7 * 7 = 0 then va_up r (34 + 7 * k + 2) (if 9 < r (34 + 7 * k + 2) + 1 then 9 else r (34 + 7 * k + 2) + 1) else r) k 3 (-1)
  else (if r 0 - r (34 + 7 * k + 3) - (r 0 - r (34 + 7 * k + 3)) / 7 * 7 = 0 then va_up r (34 + 7 * k + 2) (if 9 < r (34 + 7 * k + 2) + 1 then 9 else r (34 + 7 * k + 2) + 1) else r)
def rGrows (k : Nat) (r : Nat → Int32) : Nat → Int32 := if r (34 + 7 * k + 4) = 0 then rGrow k r else r
def costR (C nt : Nat) (r : Nat → Int32) : Int32 := 6 - visI nt (r (9 + nt % C)) / 3
def rClerks (N C nt : Nat) (j : Nat) (r : Nat → Int32) : Nat → Int32 := rWorks N C nt j (costR C nt r) (1 + r (19 + 3 * j) / 3).toNatClampNeg r
def cntR (r : Nat → Int32) (st : Int32) (N : Nat) : Int32 := cntI (fun k => decide (r (34 + 7 * k + 4) = st)) N 0 0
def rEnds2 (N K C nt : Nat) (r : Nat → Int32) : Nat → Int32 := va_up (iter (rClerks N C nt) K 0 r) 0 ((iter (rClerks N C nt) K 0 r) 0 + 1)
def rEnds (N K C nt : Nat) (r : Nat → Int32) : Nat → Int32 := iter rGrows N 0 (rEnds2 N K C nt r)
def rLay (r1 : Nat → Int32) (beg pl : Nat) (r2 : Nat → Int32) : Nat → Int32 := iter (fun k f => va_up f (pl + k) (r1 (beg + k))) 202 0 r2
def rLayS (beg pl : Nat) (r : Nat → Int32) : Nat → Int32 := iter (fun k f => va_up f (pl + k) (f (beg + k))) 202 0 r
