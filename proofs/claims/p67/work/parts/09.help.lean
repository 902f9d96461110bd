/-! helpers of whole's reference side that the class's rows use too -/
def rg (z a b : Int32) : Bool := decide (a ≤ z) && decide (z ≤ b)
def inN (z : Int32) (n : Nat) : Bool := decide (0 ≤ z) && decide (z < nI n)
theorem inN_t {z : Int32} {n : Nat} (hn : n < 2 ^ 31) (h : inN z n = true) : ∃ j, j < n ∧ z = nI j ∧ z.toNatClampNeg = j := by
  simp only [inN, Bool.and_eq_true, decide_eq_true_eq] at h
  rcases pk_ix z hn with g | g | ⟨j, g1, g2⟩
  · exact absurd h.1 (Int32.not_le.mpr g)
  · exact absurd h.2 (Int32.not_lt.mpr g)
  · exact ⟨j, g1, g2, by rw [g2]; exact nI_clamp (by omega)⟩
theorem pred_lt {z : Int32} {n : Nat} (hn : n < 2 ^ 20) : z ≤ nI n - 1 ↔ z < nI n := by
  rw [Int32.le_iff_toInt_le, Int32.lt_iff_toInt_lt]
  have h1 : (nI n - 1).toInt = (n : Int) - 1 := by
    have := pk_sub_toInt (a := n) (b := 1) (by omega) (by omega)
    exact this
  rw [h1, nI_toInt (by omega)]
  omega
theorem inN_R {z : Int32} {n : Nat} (hn : n < 2 ^ 20) : (decide (0 ≤ z) && decide (z ≤ nI n - 1)) = inN z n := by
  unfold inN
  congr 1
  exact decide_eq_decide.mpr (pred_lt hn)
theorem rg_sort {z : Int32} (h : rg z 0 3 = true) : ∃ q, q < 4 ∧ z = nI q ∧ z.toNatClampNeg = q := by
  have : inN z 4 = true := by
    rw [← inN_R (n := 4) (by decide)]
    exact h
  exact inN_t (by decide) this
theorem rg_nat {z : Int32} {n : Nat} (hn : n < 2 ^ 19) (h : rg z 0 (nI n) = true) : ∃ q, q ≤ n ∧ z = nI q ∧ z.toNatClampNeg = q := by
  have : inN z (n + 1) = true := by
    rw [← inN_R (n := n + 1) (by omega), nI_pred]
    exact h
  obtain ⟨j, h1, h2, h3⟩ := inN_t (by omega) this
  exact ⟨j, by omega, h2, h3⟩
theorem va_up_same {α : Type} (f : Nat → α) (i : Nat) (v v2 : α) : va_up (va_up f i v) i v2 = va_up f i v2 := by
  funext k
  simp only [va_up]
  split <;> rfl
def sgnI (q : Nat) : Int32 := if q = 0 then 119 else if q = 1 then 97 else if q = 2 then 100 else 103
/-- the text's row and its length, a byte put -/
def wPut (z : Int32) (s : (Nat → Int32) × Nat) : (Nat → Int32) × Nat := (va_up s.1 s.2 z, s.2 + 1)
def wLine (k q : Nat) (s : (Nat → Int32) × Nat) : (Nat → Int32) × Nat :=
  wPut 10 (wPut (sgnI q) (wPut 58 (wPut (nI (48 + k % 10)) (if 9 < k then wPut (nI (48 + k / 10)) s else s))))
theorem wLine_n (k q : Nat) (s : (Nat → Int32) × Nat) : (wLine k q s).2 ≤ s.2 + 5 := by
  unfold wLine wPut
  split <;> simp
theorem rem10 {k : Nat} (hk : k < 2 ^ 31) : nI k - nI k / 10 * 10 = nI (k % 10) := pk_rem (d := 10) hk (by decide) (by decide)
theorem div10 {k : Nat} (hk : k < 2 ^ 31) : nI k / 10 = nI (k / 10) := pk_div (d := 10) hk (by decide) (by decide)
def blankB (x : Int32) : Bool := decide (x = 32) || decide (x = 10)
def smallB (x : Int32) : Bool := decide (97 ≤ x) && decide (x ≤ 122)
def digB (x : Int32) : Bool := decide (48 ≤ x) && decide (x ≤ 57)
/-- on from k over at most n bytes with p -/
def runN (p : Int32 → Bool) (f : Nat → Int32) : Nat → Nat → Nat
  | 0, k => k
  | n + 1, k => if p (f k) then runN p f n (k + 1) else k
theorem runN_step {p : Int32 → Bool} {f : Nat → Int32} {L k : Nat} (h : k < L) (hp : p (f k) = true) : runN p f (L - k) k = runN p f (L - (k + 1)) (k + 1) := by
  rw [show L - k = (L - (k + 1)) + 1 by omega]
  show (if p (f k) then _ else _) = _
  rw [if_pos hp]
theorem runN_stop {p : Int32 → Bool} {f : Nat → Int32} {n k : Nat} (hp : p (f k) = false) : runN p f n k = k := by
  cases n with
  | zero => rfl
  | succ n =>
    show (if p (f k) then _ else _) = _
    rw [hp]; rfl
theorem runN_done {p : Int32 → Bool} {f : Nat → Int32} {L k : Nat} (h : L ≤ k) : runN p f (L - k) k = k := by
  rw [show L - k = 0 by omega]; rfl
theorem runN_ge {p : Int32 → Bool} {f : Nat → Int32} : ∀ {n k : Nat}, k ≤ runN p f n k ∧ runN p f n k ≤ k + n
  | 0, k => ⟨Nat.le_refl _, Nat.le_refl _⟩
  | n + 1, k => by
    show k ≤ (if p (f k) then runN p f n (k + 1) else k) ∧ (if p (f k) then runN p f n (k + 1) else k) ≤ k + (n + 1)
    split
    · have := runN_ge (p := p) (f := f) (n := n) (k := k + 1)
      omega
    · omega
/-- a word's letters and its number in base 27 (ten letters at most) -/
def wordF (f : Nat → Int32) (bg : Nat) : Nat → Nat → Int64 → Nat × Int64
  | 0, k, w => (k, w)
  | n + 1, k, w => if smallB (f k) then wordF f bg n (k + 1) (if k - bg < 10 then 27 * w + (f k).toInt64 - 96 else w) else (k, w)
def numF (f : Nat → Int32) (bg : Nat) : Nat → Nat → Int32 → Nat × Int32
  | 0, k, v => (k, v)
  | n + 1, k, v => if digB (f k) then numF f bg n (k + 1) (if k - bg < 2 then 10 * v + f k - 48 else v) else (k, v)
theorem wordF_at {f : Nat → Int32} {bg : Nat} : ∀ {n k : Nat} {w : Int64}, (wordF f bg n k w).1 = runN smallB f n k
  | 0, _, _ => rfl
  | n + 1, k, w => by
    show (if smallB (f k) then wordF f bg n (k + 1) (if k - bg < 10 then 27 * w + (f k).toInt64 - 96 else w) else (k, w)).1 = (if smallB (f k) then runN smallB f n (k + 1) else k)
    split
    · exact wordF_at
    · rfl
theorem numF_at {f : Nat → Int32} {bg : Nat} : ∀ {n k : Nat} {v : Int32}, (numF f bg n k v).1 = runN digB f n k
  | 0, _, _ => rfl
  | n + 1, k, v => by
    show (if digB (f k) then numF f bg n (k + 1) (if k - bg < 2 then 10 * v + f k - 48 else v) else (k, v)).1 = (if digB (f k) then runN digB f n (k + 1) else k)
    split
    · exact numF_at
    · rfl
/-- the next token: where it begins, where it ends, its kind, value, word -/
def tkR (f : Nat → Int32) (L k0 : Nat) : Nat × Nat × Int32 × Int32 × Int64 :=
  if runN blankB f (L - k0) k0 = L then (L, L, 0, 0, 0)
  else if smallB (f (runN blankB f (L - k0) k0)) then (runN blankB f (L - k0) k0, (wordF f (runN blankB f (L - k0) k0) (L - runN blankB f (L - k0) k0) (runN blankB f (L - k0) k0) 0).1, 1, 0, (wordF f (runN blankB f (L - k0) k0) (L - runN blankB f (L - k0) k0) (runN blankB f (L - k0) k0) 0).2)
  else if digB (f (runN blankB f (L - k0) k0)) then (runN blankB f (L - k0) k0, (numF f (runN blankB f (L - k0) k0) (L - runN blankB f (L - k0) k0) (runN blankB f (L - k0) k0) 0).1, (if 2 < (numF f (runN blankB f (L - k0) k0) (L - runN blankB f (L - k0) k0) (runN blankB f (L - k0) k0) 0).1 - runN blankB f (L - k0) k0 then 4 else 2), (numF f (runN blankB f (L - k0) k0) (L - runN blankB f (L - k0) k0) (runN blankB f (L - k0) k0) 0).2, 0)
  else (runN blankB f (L - k0) k0, runN blankB f (L - k0) k0 + 1, (if f (runN blankB f (L - k0) k0) = 59 then 3 else 4), 0, 0)
theorem tkR_end {f : Nat → Int32} {L k0 k : Nat} (hb : runN blankB f (L - k0) k0 = k) (h : k = L) : tkR f L k0 = (k, k, 0, 0, 0) := by
  unfold tkR; rw [hb, if_pos h, h]
theorem tkR_word {f : Nat → Int32} {L k0 k : Nat} (hb : runN blankB f (L - k0) k0 = k) (h : ¬ k = L) (h2 : smallB (f k) = true) : tkR f L k0 = (k, (wordF f k (L - k) k 0).1, 1, 0, (wordF f k (L - k) k 0).2) := by
  unfold tkR; rw [hb, if_neg h, if_pos h2]
theorem tkR_num {f : Nat → Int32} {L k0 k : Nat} (hb : runN blankB f (L - k0) k0 = k) (h : ¬ k = L) (h2 : smallB (f k) = false) (h3 : digB (f k) = true) : tkR f L k0 = (k, (numF f k (L - k) k 0).1, (if 2 < (numF f k (L - k) k 0).1 - k then 4 else 2), (numF f k (L - k) k 0).2, 0) := by
  unfold tkR; rw [hb, if_neg h, if_neg (by rw [h2]; decide), if_pos h3]
theorem tkR_other {f : Nat → Int32} {L k0 k : Nat} (hb : runN blankB f (L - k0) k0 = k) (h : ¬ k = L) (h2 : smallB (f k) = false) (h3 : digB (f k) = false) : tkR f L k0 = (k, k + 1, (if f k = 59 then 3 else 4), 0, 0) := by
  unfold tkR; rw [hb, if_neg h, if_neg (by rw [h2]; decide), if_neg (by rw [h3]; decide)]
theorem tkR_le {f : Nat → Int32} {L k0 : Nat} (hk : k0 ≤ L) : (tkR f L k0).1 ≤ (tkR f L k0).2.1 ∧ (tkR f L k0).2.1 ≤ L := by
  have hb := runN_ge (p := blankB) (f := f) (n := L - k0) (k := k0)
  generalize hk9 : runN blankB f (L - k0) k0 = k at hb
  by_cases h : k = L
  · rw [tkR_end hk9 h]; exact ⟨Nat.le_refl _, by show k ≤ L; omega⟩
  · by_cases h2 : smallB (f k) = true
    · rw [tkR_word hk9 h h2]
      have := runN_ge (p := smallB) (f := f) (n := L - k) (k := k)
      rw [← wordF_at (bg := k) (w := 0)] at this
      exact ⟨this.1, by show (wordF f k (L - k) k 0).1 ≤ L; omega⟩
    · have h2 : smallB (f k) = false := by simpa using h2
      by_cases h3 : digB (f k) = true
      · rw [tkR_num hk9 h h2 h3]
        have := runN_ge (p := digB) (f := f) (n := L - k) (k := k)
        rw [← numF_at (bg := k) (v := 0)] at this
        exact ⟨this.1, by show (numF f k (L - k) k 0).1 ≤ L; omega⟩
      · have h3 : digB (f k) = false := by simpa using h3
        rw [tkR_other hk9 h h2 h3]
        exact ⟨Nat.le_succ _, by show k + 1 ≤ L; omega⟩
