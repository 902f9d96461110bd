/-! the reference's reading of a text -/
def blankB (x : Int32) : Bool := decide (x = 32) || decide (x = 10)
def smallB (x : Int32) : Bool := decide (97 ≤ x) && decide (x ≤ 122)
def digB (x : Int32) : Bool := decide (48 ≤ x) && decide (x ≤ 57)
/-- on from k over at most n bytes with p -/
def runN (p : Int32 → Bool) (f : Nat → Int32) : Nat → Nat → Nat
  | 0, k => k
  | n + 1, k => if p (f k) then runN p f n (k + 1) else k
theorem runN_step {p : Int32 → Bool} {f : Nat → Int32} {L k : Nat} (h : k < L) (hp : p (f k) = true) : runN p f (L - k) k = runN p f (L - (k + 1)) (k + 1) := by
  rw [show L - k = (L - (k + 1)) + 1 by omega]
  show (if p (f k) then _ else _) = _
  rw [if_pos hp]
theorem runN_stop {p : Int32 → Bool} {f : Nat → Int32} {n k : Nat} (hp : p (f k) = false) : runN p f n k = k := by
  cases n with
  | zero => rfl
  | succ n =>
    show (if p (f k) then _ else _) = _
    rw [hp]; rfl
theorem runN_done {p : Int32 → Bool} {f : Nat → Int32} {L k : Nat} (h : L ≤ k) : runN p f (L - k) k = k := by
  rw [show L - k = 0 by omega]; rfl
theorem runN_ge {p : Int32 → Bool} {f : Nat → Int32} : ∀ {n k : Nat}, k ≤ runN p f n k ∧ runN p f n k ≤ k + n
  | 0, k => ⟨Nat.le_refl _, Nat.le_refl _⟩
  | n + 1, k => by
    show k ≤ (if p (f k) then runN p f n (k + 1) else k) ∧ (if p (f k) then runN p f n (k + 1) else k) ≤ k + (n + 1)
    split
    · have := runN_ge (p := p) (f := f) (n := n) (k := k + 1)
      omega
    · omega
/-- a word's letters and its number in base 27 (ten letters at most) -/
def wordF (f : Nat → Int32) (bg : Nat) : Nat → Nat → Int64 → Nat × Int64
  | 0, k, w => (k, w)
  | n + 1, k, w => if smallB (f k) then wordF f bg n (k + 1) (if k - bg < 10 then 27 * w + (f k).toInt64 - 96 else w) else (k, w)
def numF (f : Nat → Int32) (bg : Nat) : Nat → Nat → Int32 → Nat × Int32
  | 0, k, v => (k, v)
  | n + 1, k, v => if digB (f k) then numF f bg n (k + 1) (if k - bg < 2 then 10 * v + f k - 48 else v) else (k, v)
theorem wordF_step {f : Nat → Int32} {bg L k : Nat} {w : Int64} (h : k < L) (hp : smallB (f k) = true) : wordF f bg (L - k) k w = wordF f bg (L - (k + 1)) (k + 1) (if k - bg < 10 then 27 * w + (f k).toInt64 - 96 else w) := by
  rw [show L - k = (L - (k + 1)) + 1 by omega]
  show (if smallB (f k) then _ else _) = _
  rw [if_pos hp]
theorem wordF_stop {f : Nat → Int32} {bg L k : Nat} {w : Int64} (h : (decide (k < L) && smallB (f k)) = false) : wordF f bg (L - k) k w = (k, w) := by
  by_cases hk : k < L
  · rw [show L - k = (L - (k + 1)) + 1 by omega]
    show (if smallB (f k) then _ else _) = _
    rw [decide_eq_true hk] at h
    rw [show smallB (f k) = false from by simpa using h]
    rfl
  · rw [show L - k = 0 by omega]; rfl
theorem numF_step {f : Nat → Int32} {bg L k : Nat} {v : Int32} (h : k < L) (hp : digB (f k) = true) : numF f bg (L - k) k v = numF f bg (L - (k + 1)) (k + 1) (if k - bg < 2 then 10 * v + f k - 48 else v) := by
  rw [show L - k = (L - (k + 1)) + 1 by omega]
  show (if digB (f k) then _ else _) = _
  rw [if_pos hp]
theorem numF_stop {f : Nat → Int32} {bg L k : Nat} {v : Int32} (h : (decide (k < L) && digB (f k)) = false) : numF f bg (L - k) k v = (k, v) := by
  by_cases hk : k < L
  · rw [show L - k = (L - (k + 1)) + 1 by omega]
    show (if digB (f k) then _ else _) = _
    rw [decide_eq_true hk] at h
    rw [show digB (f k) = false from by simpa using h]
    rfl
  · rw [show L - k = 0 by omega]; rfl
theorem wordF_at {f : Nat → Int32} {bg : Nat} : ∀ {n k : Nat} {w : Int64}, (wordF f bg n k w).1 = runN smallB f n k
  | 0, _, _ => rfl
  | n + 1, k, w => by
    show (if smallB (f k) then wordF f bg n (k + 1) (if k - bg < 10 then 27 * w + (f k).toInt64 - 96 else w) else (k, w)).1 = (if smallB (f k) then runN smallB f n (k + 1) else k)
    split
    · exact wordF_at
    · rfl
theorem numF_at {f : Nat → Int32} {bg : Nat} : ∀ {n k : Nat} {v : Int32}, (numF f bg n k v).1 = runN digB f n k
  | 0, _, _ => rfl
  | n + 1, k, v => by
    show (if digB (f k) then numF f bg n (k + 1) (if k - bg < 2 then 10 * v + f k - 48 else v) else (k, v)).1 = (if digB (f k) then runN digB f n (k + 1) else k)
    split
    · exact numF_at
    · rfl
/-- the next token: where it begins, where it ends, its kind, value, word -/
def tkR (f : Nat → Int32) (L k0 : Nat) : Nat × Nat × Int32 × Int32 × Int64 :=
  if runN blankB f (L - k0) k0 = L then (L, L, 0, 0, 0)
  else if smallB (f (runN blankB f (L - k0) k0)) then (runN blankB f (L - k0) k0, (wordF f (runN blankB f (L - k0) k0) (L - runN blankB f (L - k0) k0) (runN blankB f (L - k0) k0) 0).1, 1, 0, (wordF f (runN blankB f (L - k0) k0) (L - runN blankB f (L - k0) k0) (runN blankB f (L - k0) k0) 0).2)
  else if digB (f (runN blankB f (L - k0) k0)) then (runN blankB f (L - k0) k0, (numF f (runN blankB f (L - k0) k0) (L - runN blankB f (L - k0) k0) (runN blankB f (L - k0) k0) 0).1, (if 2 < (numF f (runN blankB f (L - k0) k0) (L - runN blankB f (L - k0) k0) (runN blankB f (L - k0) k0) 0).1 - runN blankB f (L - k0) k0 then 4 else 2), (numF f (runN blankB f (L - k0) k0) (L - runN blankB f (L - k0) k0) (runN blankB f (L - k0) k0) 0).2, 0)
  else (runN blankB f (L - k0) k0, runN blankB f (L - k0) k0 + 1, (if f (runN blankB f (L - k0) k0) = 59 then 3 else 4), 0, 0)
theorem tkR_end {f : Nat → Int32} {L k0 k : Nat} (hb : runN blankB f (L - k0) k0 = k) (h : k = L) : tkR f L k0 = (k, k, 0, 0, 0) := by
  unfold tkR; rw [hb, if_pos h, h]
theorem tkR_word {f : Nat → Int32} {L k0 k : Nat} (hb : runN blankB f (L - k0) k0 = k) (h : ¬ k = L) (h2 : smallB (f k) = true) : tkR f L k0 = (k, (wordF f k (L - k) k 0).1, 1, 0, (wordF f k (L - k) k 0).2) := by
  unfold tkR; rw [hb, if_neg h, if_pos h2]
theorem tkR_num {f : Nat → Int32} {L k0 k : Nat} (hb : runN blankB f (L - k0) k0 = k) (h : ¬ k = L) (h2 : smallB (f k) = false) (h3 : digB (f k) = true) : tkR f L k0 = (k, (numF f k (L - k) k 0).1, (if 2 < (numF f k (L - k) k 0).1 - k then 4 else 2), (numF f k (L - k) k 0).2, 0) := by
  unfold tkR; rw [hb, if_neg h, if_neg (by rw [h2]; decide), if_pos h3]
theorem tkR_other {f : Nat → Int32} {L k0 k : Nat} (hb : runN blankB f (L - k0) k0 = k) (h : ¬ k = L) (h2 : smallB (f k) = false) (h3 : digB (f k) = false) : tkR f L k0 = (k, k + 1, (if f k = 59 then 3 else 4), 0, 0) := by
  unfold tkR; rw [hb, if_neg h, if_neg (by rw [h2]; decide), if_neg (by rw [h3]; decide)]
theorem tkR_le {f : Nat → Int32} {L k0 : Nat} (hk : k0 ≤ L) : (tkR f L k0).1 ≤ (tkR f L k0).2.1 ∧ (tkR f L k0).2.1 ≤ L := by
  have hb := runN_ge (p := blankB) (f := f) (n := L - k0) (k := k0)
  generalize hk9 : runN blankB f (L - k0) k0 = k at hb
  by_cases h : k = L
  · rw [tkR_end hk9 h]; exact ⟨Nat.le_refl _, by show k ≤ L; omega⟩
  · by_cases h2 : smallB (f k) = true
    · rw [tkR_word hk9 h h2]
      have := runN_ge (p := smallB) (f := f) (n := L - k) (k := k)
      rw [← wordF_at (bg := k) (w := 0)] at this
      exact ⟨this.1, by show (wordF f k (L - k) k 0).1 ≤ L; omega⟩
    · have h2 : smallB (f k) = false := by simpa using h2
      by_cases h3 : digB (f k) = true
      · rw [tkR_num hk9 h h2 h3]
        have := runN_ge (p := digB) (f := f) (n := L - k) (k := k)
        rw [← numF_at (bg := k) (v := 0)] at this
        exact ⟨this.1, by show (numF f k (L - k) k 0).1 ≤ L; omega⟩
      · have h3 : digB (f k) = false := by simpa using h3
        rw [tkR_other hk9 h h2 h3]
        exact ⟨Nat.le_succ _, by show k + 1 ≤ L; omega⟩
theorem yS_self {y : Nat → Nat → Int32} {i : Nat} {v : Int32} (h : y 0 i = v) : yS y i v = y := by
  funext j
  by_cases hj : j = 0
  · subst hj
    funext k
    show (if k = i then v else y 0 k) = y 0 k
    split
    · rename_i e; rw [e]; exact h.symm
    · rfl
  · exact yS_row _ _ _ _ hj
/-- a reader's state: at, begin, kind, value, word, wrong, error -/
abbrev PSt : Type := Nat × Int32 × Int32 × Int32 × Int64 × Bool × Int32
def encY (y : Nat → Nat → Int32) (p : PSt) : Nat → Nat → Int32 := yS (yS (yS (yS (yS (yS y 4 (nI p.1)) 5 p.2.1) 6 p.2.2.1) 7 p.2.2.2.1) 8 (bI p.2.2.2.2.2.1)) 2 p.2.2.2.2.2.2
/-- the reference's nine cells while it reads -/
def PARW (T : Nat → ClassId) (b : Nat → Nat) (y : Nat → Nat → Int32) (p : PSt) : va_W :=
  [(b 0, .inr (10, [.ref (b 1), .ref (b 2), .ref (b 3), .ref (b 4), .ref (b 5), .ref (b 6), .int (y 0 0), .ref (b 7), .int (y 0 1), .int p.2.2.2.2.2.2, .int (y 0 3), .int (nI p.1), .int p.2.1, .int p.2.2.1, .int p.2.2.2.1, .long p.2.2.2.2.1, .int (bI p.2.2.2.2.2.1), .ref (b 8), .int (y 0 9)])),
   (b 1, .inl (T 0, 202, .inl (y 1))),
   (b 2, .inl (T 0, 202, .inl (y 2))),
   (b 3, .inl (T 0, 202, .inl (y 3))),
   (b 4, .inl (T 0, 1616, .inl (y 4))),
   (b 5, .inl (T 0, 404, .inl (y 5))),
   (b 6, .inl (T 1, 2, .inl (y 6))),
   (b 7, .inl (T 0, 600, .inl (y 7))),
   (b 8, .inl (T 0, 200, .inl (y 8)))]
theorem PARW_eq (T : Nat → ClassId) (b : Nat → Nat) (y : Nat → Nat → Int32) (p : PSt) : PARW T b y p = REF T b (encY y p) p.2.2.2.2.1 := rfl
def failP (p : PSt) : PSt := (p.1, p.2.1, p.2.2.1, p.2.2.2.1, p.2.2.2.2.1, true, p.2.1)
def tokP (f : Nat → Int32) (L : Nat) (p : PSt) : PSt := ((tkR f L p.1).2.1, nI (tkR f L p.1).1, (tkR f L p.1).2.2.1, (tkR f L p.1).2.2.2.1, (tkR f L p.1).2.2.2.2, p.2.2.2.2.2.1, p.2.2.2.2.2.2)
def takesP (f : Nat → Int32) (L : Nat) (z : Bool) (p : PSt) : PSt := if p.2.2.2.2.2.1 then p else if z then tokP f L p else failP p
theorem takesP_w {f : Nat → Int32} {L : Nat} {z : Bool} {p : PSt} (h : p.2.2.2.2.2.1 = true) : takesP f L z p = p := by unfold takesP; rw [if_pos h]
theorem takesP_f {f : Nat → Int32} {L : Nat} {z : Bool} {p : PSt} (h : p.2.2.2.2.2.1 = false) (hz : z = false) : takesP f L z p = failP p := by unfold takesP; rw [h, hz]; rfl
theorem takesP_t {f : Nat → Int32} {L : Nat} {z : Bool} {p : PSt} (h : p.2.2.2.2.2.1 = false) (hz : z = true) : takesP f L z p = tokP f L p := by unfold takesP; rw [h, hz]; rfl
theorem takesP_le {f : Nat → Int32} {L : Nat} {z : Bool} {p : PSt} (h2 : p.1 ≤ L) : (takesP f L z p).1 ≤ L := by
  unfold takesP
  split
  · exact h2
  · split
    · exact (tkR_le (f := f) h2).2
    · exact h2
def wordB (p : PSt) (w : Int64) : Bool := decide (p.2.2.1 = 1) && decide (p.2.2.2.2.1 = w)
def kindB (p : PSt) (z : Int32) : Bool := decide (p.2.2.1 = z)
def numP (lo hi : Int32) (p : PSt) : Int32 := if (decide (p.2.2.1 = 2) && rg p.2.2.2.1 lo hi) && !p.2.2.2.2.2.1 then p.2.2.2.1 else lo
def numS (f : Nat → Int32) (L : Nat) (lo hi : Int32) (p : PSt) : PSt := takesP f L (decide (p.2.2.1 = 2) && rg p.2.2.2.1 lo hi) p
def tkW (f : Nat → Int32) (L : Nat) (w : Int64) (p : PSt) : PSt := takesP f L (wordB p w) p
def tkK (f : Nat → Int32) (L : Nat) (z : Int32) (p : PSt) : PSt := takesP f L (kindB p z) p
theorem numS_le {f : Nat → Int32} {L : Nat} {lo hi : Int32} {p : PSt} (h2 : p.1 ≤ L) : (numS f L lo hi p).1 ≤ L := takesP_le h2
theorem tkW_le {f : Nat → Int32} {L : Nat} {w : Int64} {p : PSt} (h2 : p.1 ≤ L) : (tkW f L w p).1 ≤ L := takesP_le h2
theorem tkK_le {f : Nat → Int32} {L : Nat} {z : Int32} {p : PSt} (h2 : p.1 ≤ L) : (tkK f L z p).1 ≤ L := takesP_le h2
def sortP (p : PSt) : Int32 := if wordB p 3957503 then 0 else if wordB p 3967636 then 1 else if wordB p 400334 then 2 else if wordB p 118913 then 3 else -1
/-- a reader with its draft and a count -/
abbrev RSt : Type := Nat × (Nat → Int32) × PSt
def cloudB (s : RSt) : Bool := (decide (s.2.2.2.2.1 = 2) && decide (s.2.2.2.2.2.1 ≤ 9)) && decide (s.1 < 10)
def cloudR (f : Nat → Int32) (L : Nat) (s : RSt) : RSt :=
  if cloudB s && !s.2.2.2.2.2.2.2.1 then (s.1 + 1, rAddsCloud s.2.1 s.1 s.2.2.2.2.2.1, takesP f L (cloudB s) s.2.2) else (s.1, s.2.1, takesP f L (cloudB s) s.2.2)
def clerk1 (f : Nat → Int32) (L : Nat) (s : RSt) : PSt := takesP f L (decide (s.1 < 5)) s.2.2
def clerk2 (f : Nat → Int32) (L : Nat) (s : RSt) : PSt := numS f L 1 9 (clerk1 f L s)
def clerk3 (f : Nat → Int32) (L : Nat) (s : RSt) : PSt := numS f L 0 99 (clerk2 f L s)
def clerkR (f : Nat → Int32) (L : Nat) (s : RSt) : RSt :=
  if kindB (clerk3 f L s) 3 && !(clerk3 f L s).2.2.2.2.2.1 then (s.1 + 1, rAddsClerk s.2.1 s.1 (numP 1 9 (clerk1 f L s)) (numP 0 99 (clerk2 f L s)), tkK f L 3 (clerk3 f L s)) else (s.1, s.2.1, tkK f L 3 (clerk3 f L s))
def comp1 (f : Nat → Int32) (L : Nat) (s : RSt) : PSt := takesP f L (decide (s.1 < 24)) s.2.2
def comp2 (f : Nat → Int32) (L : Nat) (s : RSt) : PSt := numS f L 0 99 (comp1 f L s)
def compB (f : Nat → Int32) (L : Nat) (s : RSt) : Bool := decide (0 ≤ sortP (comp2 f L s)) && (findR s.2.1 (numP 0 99 (comp1 f L s)) (sortP (comp2 f L s)) s.1).isNone
def comp3 (f : Nat → Int32) (L : Nat) (s : RSt) : PSt := takesP f L (compB f L s) (comp2 f L s)
def comp4 (f : Nat → Int32) (L : Nat) (s : RSt) : PSt := numS f L 1 9 (comp3 f L s)
def compR (f : Nat → Int32) (L : Nat) (s : RSt) : RSt :=
  if kindB (comp4 f L s) 3 && !(comp4 f L s).2.2.2.2.2.1 then (s.1 + 1, rFiles s.2.1 s.1 (numP 0 99 (comp1 f L s)) (sortP (comp2 f L s)) (numP 1 9 (comp3 f L s)), tkK f L 3 (comp4 f L s)) else (s.1, s.2.1, tkK f L 3 (comp4 f L s))
theorem takesP_ok {f : Nat → Int32} {L : Nat} {z : Bool} {p : PSt} (h : (takesP f L z p).2.2.2.2.2.1 = false) : p.2.2.2.2.2.1 = false ∧ z = true := by
  unfold takesP at h
  split at h
  · rename_i h1; rw [h1] at h; cases h
  · rename_i h1
    refine ⟨by simpa using h1, ?_⟩
    split at h
    · rename_i h2; exact h2
    · cases h
theorem clerk_lt {f : Nat → Int32} {L : Nat} {s : RSt} (h : (kindB (clerk3 f L s) 3 && !(clerk3 f L s).2.2.2.2.2.1) = true) : s.1 < 5 := by
  simp only [Bool.and_eq_true, Bool.not_eq_true'] at h
  have h2 := (takesP_ok (takesP_ok h.2).1).1
  simpa using (takesP_ok h2).2
theorem comp_ok {f : Nat → Int32} {L : Nat} {s : RSt} (h : (comp4 f L s).2.2.2.2.2.1 = false) : s.1 < 24 ∧ compB f L s = true := by
  have h1 := takesP_ok h
  have h2 := takesP_ok h1.1
  have h3 := takesP_ok (takesP_ok h2.1).1
  exact ⟨by simpa using h3.2, h2.2⟩
theorem comp_lt {f : Nat → Int32} {L : Nat} {s : RSt} (h : (kindB (comp4 f L s) 3 && !(comp4 f L s).2.2.2.2.2.1) = true) : s.1 < 24 := by
  simp only [Bool.and_eq_true, Bool.not_eq_true'] at h
  exact (comp_ok h.2).1
