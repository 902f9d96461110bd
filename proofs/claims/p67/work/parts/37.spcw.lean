/-! what the window answers, of its office o and what else it keeps -/
def chkB (b : Bool) (E : String) : Option String := if b then none else some E
theorem chkB_t {b : Bool} {E : String} (h : chkB b E = none) : b = true := by
  cases b with
  | true => rfl
  | false => cases h
theorem chkB_n {b : Bool} {E : String} (h : b = true) : chkB b E = none := by rw [h]; rfl
theorem chkB_f {b : Bool} {E : String} (h : b = false) : chkB b E = some E := by rw [h]; rfl
def OI (o : Nat → Nat → Int32) (N K C nt : Nat) : Prop := o 0 7 = nI N ∧ N ≤ 24 ∧ o 0 5 = nI K ∧ K ≤ 5 ∧ o 0 4 = nI C ∧ 0 < C ∧ C ≤ 10 ∧ o 0 0 = nI nt ∧ nt < 2 ^ 18 ∧ (∀ j, j < K → ∃ S, S ≤ 9 ∧ o 2 j = nI S)
theorem nightC_0 {N K C k : Nat} {o : Nat → Nat → Int32} {i : Nat} (h : i ≠ 0) (h6 : i ≠ 6) : (nightC N K C k o).2 0 i = o 0 i := by
  show iter (growC (nI (k + 1))) N 0 _ 0 i = o 0 i
  rw [grows_keep.1]
  show va_up ((clerksNightC N K C k o).2 0) 0 (nI (k + 1)) i = o 0 i
  rw [va_up_ne _ _ h]
  exact clerksC_keep.2.2 i h6
theorem nightC_00 {N K C k : Nat} {o : Nat → Nat → Int32} : (nightC N K C k o).2 0 0 = nI (k + 1) := by
  show iter (growC (nI (k + 1))) N 0 _ 0 0 = nI (k + 1)
  rw [grows_keep.1]
  rfl
theorem nightC_2 {N K C k : Nat} {o : Nat → Nat → Int32} : (nightC N K C k o).2 2 = o 2 := by
  show iter (growC (nI (k + 1))) N 0 _ 2 = o 2
  rw [grows_keep.2.2.1]
  exact clerksC_keep.1
theorem OI.night {o : Nat → Nat → Int32} {N K C nt : Nat} (h : OI o N K C nt) (hn : nt + 1 < 2 ^ 18) : OI (nightC N K C nt o).2 N K C (nt + 1) := by
  obtain ⟨h1, h2, h3, h4, h5, h6, h7, h8, h9, h10⟩ := h
  exact ⟨(nightC_0 (by decide) (by decide)).trans h1, h2, (nightC_0 (by decide) (by decide)).trans h3, h4, (nightC_0 (by decide) (by decide)).trans h5, h6, h7, nightC_00, hn, fun j hj => by rw [nightC_2]; exact h10 j hj⟩
def nextC (o : Nat → Nat → Int32) (C nt q : Nat) : Option Nat := ffind (fun k => justB q (o 0 1) (o 0 2) (o 0 3) k (o 1 (k % C))) (nt + 280 - nt) nt
def jcC (o : Nat → Nat → Int32) (C nt q : Nat) : Int32 := cntI (fun j => justB q (o 0 1) (o 0 2) (o 0 3) j (o 1 (j % C))) (nt + 28 - nt) nt 0
def likeC (f : Nat → Int32) : Nat × Int32 := iter (fun q b => if b.2 < f q then (q, f q) else b) 3 1 (0, f 0)
def cntC (o : Nat → Nat → Int32) (z : Int32) (N : Nat) : Int32 := cntI (fun k => decide (o 8 k = z)) N 0 0
def endsC (N K C nt : Nat) (k : Nat) (s : Int32 × (Nat → Nat → Int32)) : Int32 × (Nat → Nat → Int32) := (s.1 + (nightC N K C (nt + k) s.2).1, (nightC N K C (nt + k) s.2).2)
/-- nights on trial until complaint j is closed, n at most -/
def cUntil (N K C j : Nat) : Nat → Nat → (Nat → Nat → Int32) → Nat × (Nat → Nat → Int32)
  | 0, _, o => (0, o)
  | n + 1, nt, o => if o 8 j = 0 then ((cUntil N K C j n (nt + 1) (nightC N K C nt o).2).1 + 1, (cUntil N K C j n (nt + 1) (nightC N K C nt o).2).2) else (0, o)
theorem cUntil_step {N K C j n nt : Nat} {o : Nat → Nat → Int32} (h : o 8 j = 0) : cUntil N K C j (n + 1) nt o = ((cUntil N K C j n (nt + 1) (nightC N K C nt o).2).1 + 1, (cUntil N K C j n (nt + 1) (nightC N K C nt o).2).2) := by
  show (if o 8 j = 0 then _ else _) = _
  rw [if_pos h]
theorem cUntil_done {N K C j n nt : Nat} {o : Nat → Nat → Int32} (h : ¬ o 8 j = 0) : cUntil N K C j n nt o = (0, o) := by
  cases n with
  | zero => rfl
  | succ n =>
    show (if o 8 j = 0 then _ else _) = _
    rw [if_neg h]
def wStepC (o : Nat → Nat → Int32) (z : Int32) (k : Nat) (s : (Nat → Int32) × Nat) : (Nat → Int32) × Nat := if o 4 k = z then wLine k (o 8 k).toNatClampNeg s else s
def shrC (z n : Int32) : Int32 := (z.toUInt32 >>> (Int32.toUInt32 n &&& Int32.toUInt32 31)).toInt32
def put4 (z : Int32) (L : Nat) (f : Nat → Int32) : Nat → Int32 := va_up (va_up (va_up (va_up f L (shrC z 24 &&& 255)) (L + 1) (shrC z 16 &&& 255)) (L + 1 + 1) (shrC z 8 &&& 255)) (L + 1 + 1 + 1) (z &&& 255)
def appC (a b c d e : Int32) (L : Nat) (f : Nat → Int32) : Nat → Int32 := put4 e (L + 4 + 4 + 4 + 4) (put4 d (L + 4 + 4 + 4) (put4 c (L + 4 + 4) (put4 b (L + 4) (put4 a L f))))
theorem pushO_0 (O : Nat → Nat → Nat → Int32) (nx : Nat) (x : Nat → Nat → Int32) : va_up O (3 + nx) x 0 = O 0 := if_neg (by omega)
theorem saveO_0 (O : Nat → Nat → Nat → Int32) (k : Nat) (x : Nat → Nat → Int32) : va_up O (11 + k) x 0 = O 0 := if_neg (by omega)
theorem pushO_s (O : Nat → Nat → Nat → Int32) {nx : Nat} (k : Nat) (x : Nat → Nat → Int32) (h : nx < 8) : va_up O (3 + nx) x (11 + k) = O (11 + k) := if_neg (by omega)
theorem OI.pushed {O O1 : Nat → Nat → Nat → Int32} {N K C nt : Nat} (h : OI (O 0) N K C nt) (e : O1 0 = O 0) : OI (O1 0) N K C nt := by rw [e]; exact h
theorem leastC_lt {o : Nat → Nat → Int32} {K j : Nat} (h : (minF (fun _ => true) (o 3) K 0 (none, 100)).1 = some j) : j < K ∧ True := by
  rcases minF_lt h with g | ⟨_, g2, _⟩
  · cases g
  · exact ⟨by omega, trivial⟩
theorem WIN_at0 (T : Nat → ClassId) (v : Nat → Nat) (B : Nat → Nat → Nat) (O : Nat → Nat → Nat → Int32) (g : CSt) (ln un nx pl : Nat) (f0 f1 f2 : Nat → Int32) : WIN T v B (va_up O 0 (O 0)) g ln un nx pl f0 f1 f2 = WIN T v B O g ln un nx pl f0 f1 f2 := by rw [up_self]
