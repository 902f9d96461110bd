/-! nights until a complaint is closed; the written text; the input -/
def rUntil (N K C j : Nat) : Nat → Nat → (Nat → Int32) → Nat × (Nat → Int32)
  | 0, _, r => (0, r)
  | f + 1, nt, r => if r (34 + 7 * j + 4) = 0 then ((rUntil N K C j f (nt + 1) (rEnds N K C nt r)).1 + 1, (rUntil N K C j f (nt + 1) (rEnds N K C nt r)).2) else (0, r)
theorem rUntil_step {N K C j f nt : Nat} {r : Nat → Int32} (h : r (34 + 7 * j + 4) = 0) : rUntil N K C j (f + 1) nt r = ((rUntil N K C j f (nt + 1) (rEnds N K C nt r)).1 + 1, (rUntil N K C j f (nt + 1) (rEnds N K C nt r)).2) := by
  show (if r (34 + 7 * j + 4) = 0 then _ else _) = _
  rw [if_pos h]
theorem rUntil_done {N K C j f nt : Nat} {r : Nat → Int32} (h : ¬ r (34 + 7 * j + 4) = 0) : rUntil N K C j f nt r = (0, r) := by
  cases f with
  | zero => rfl
  | succ f =>
    show (if r (34 + 7 * j + 4) = 0 then _ else _) = _
    rw [if_neg h]
/-- of each complaint: when it was filed; one that waits isn't 56 nights old -/
def RWt (r : Nat → Int32) (N nt : Nat) : Prop := ∀ j, j < N → ∃ fl, fl ≤ nt ∧ r (34 + 7 * j + 3) = nI fl ∧ (r (34 + 7 * j + 4) = 0 → nt < fl + 56)
/-- who waits afterwards waited before -/
def KW (r r' : Nat → Int32) : Prop := ∀ j, r' (34 + 7 * j + 4) = 0 → r (34 + 7 * j + 4) = 0
theorem KW.rfl {r : Nat → Int32} : KW r r := fun _ h => h
theorem KW.up {r r' : Nat → Int32} {a : Nat} {x : Int32} (h : KW r r') (ha : a = 7 ∨ a = 8 ∨ ∃ j, j < 5 ∧ (a = 19 + 3 * j + 1 ∨ a = 19 + 3 * j + 2)) : KW r (va_up r' a x) := by
  intro j hj
  rw [va_up_ne _ _ (by rcases ha with h1 | h1 | ⟨q, _, h1 | h1⟩ <;> omega)] at hj
  exact h j hj
theorem KW.closes {r r' : Nat → Int32} {k : Nat} {x y : Int32} (h : KW r r') (hx : x ≠ 0) : KW r (rCloses r' k x y) := by
  intro j hj
  unfold rCloses at hj
  rw [va_up_ne _ _ (by omega), va_up_ne _ _ (by omega)] at hj
  by_cases e : j = k
  · subst e
    exact absurd (by simpa [va_up] using hj) hx
  · rw [va_up_ne _ _ (by omega)] at hj
    exact h j hj
theorem KW.handles {r r' : Nat → Int32} {N C nt j : Nat} (h : KW r r') (hj : j < 5) : KW r (rHandles N C nt r' j).2 := by
  unfold rHandles
  split
  · exact ((h.closes (by decide)).up (Or.inr (Or.inr ⟨j, hj, Or.inr _root_.rfl⟩))).up (Or.inr (Or.inl _root_.rfl))
  · split
    · split
      · exact h.closes (by decide)
      · exact h
    · exact h
theorem KW.burn {r r' : Nat → Int32} {j : Nat} {z : Int32} (h : KW r r') (hj : j < 5) : KW r (rBurn r' j z) :=
  (h.up (Or.inr (Or.inr ⟨j, hj, Or.inl _root_.rfl⟩))).up (Or.inl _root_.rfl)
theorem KW.works {N C nt j : Nat} {cost : Int32} (hj : j < 5) : ∀ {n : Nat} {r r' : Nat → Int32}, KW r r' → KW r (rWorks N C nt j cost n r')
  | 0, _, _, h => h
  | n + 1, r, r', h => by
    simp only [rWorks]
    split
    · exact h
    · split
      · exact KW.works hj ((h.handles hj).burn hj)
      · exact h
theorem KW.clerks {N C nt : Nat} : ∀ {n i : Nat} {r r' : Nat → Int32}, i + n ≤ 5 → KW r r' → KW r (iter (rClerks N C nt) n i r')
  | 0, _, _, _, _, h => h
  | n + 1, i, r, r', hi, h => KW.clerks (n := n) (i := i + 1) (by omega) (KW.works (by omega) h)
theorem RWt.ends {r : Nat → Int32} {N K C nt : Nat} (h : RI r N K C nt) {j fl : Nat} (hj : j < N) (h1 : fl ≤ nt) (h2 : r (34 + 7 * j + 3) = nI fl) (h3 : r (34 + 7 * j + 4) = 0 → nt < fl + 56) :
    rEnds N K C nt r (34 + 7 * j + 3) = nI fl ∧ (rEnds N K C nt r (34 + 7 * j + 4) = 0 → nt + 1 < fl + 56) := by
  obtain ⟨hN, hN2, hKn, hK2, hC, hC1, hC2, hn, hnt, hSo, hSK⟩ := id h
  have g := rEnds2_KR (r := r) (N := N) (K := K) (C := C) (nt := nt) hK2
  have e3 : rEnds2 N K C nt r (34 + 7 * j + 3) = nI fl := by
    unfold rEnds2
    rw [va_up_ne _ _ (by omega)]
    exact (g.2.2.2 j).2.2.2.trans h2
  have e0 : rEnds2 N K C nt r 0 = nI (nt + 1) := by
    show (if 0 = 0 then iter (rClerks N C nt) K 0 r 0 + 1 else iter (rClerks N C nt) K 0 r 0) = nI (nt + 1)
    rw [if_pos rfl, g.1 0 (by omega), hn]
    exact nI_1 nt
  refine ⟨?_, fun hw => ?_⟩
  · unfold rEnds
    rw [rGrowsAll_keep (Or.inr (Or.inr rfl))]
    exact e3
  · unfold rEnds at hw
    rw [rGrowsAll_at (by omega), if_pos (by omega)] at hw
    unfold rGrows at hw
    have ha : nI (nt + 1) - nI fl = nI (nt + 1 - fl) := pk_sub (by omega)
    by_cases c : rEnds2 N K C nt r (34 + 7 * j + 4) = 0
    · rw [if_pos c] at hw
      unfold rGrow at hw
      rw [e0, e3, ha] at hw
      have hwb : r (34 + 7 * j + 4) = 0 := by
        refine KW.clerks (N := N) (C := C) (nt := nt) (n := K) (i := 0) (by omega) KW.rfl j ?_
        unfold rEnds2 at c
        rw [va_up_ne _ _ (by omega)] at c
        exact c
      by_cases c2 : nI (nt + 1 - fl) = 56
      · rw [if_pos c2] at hw
        unfold rCloses at hw
        rw [va_up_ne _ _ (by omega), va_up_ne _ _ (by omega)] at hw
        simp [va_up] at hw
      · have c3 : nt + 1 - fl ≠ 56 := fun q => c2 (by rw [q]; rfl)
        have := h3 hwb
        omega
    · rw [if_neg c] at hw
      exact absurd hw c
theorem RWt.all {r : Nat → Int32} {N K C nt : Nat} (h : RI r N K C nt) (hw : RWt r N nt) : RWt (rEnds N K C nt r) N (nt + 1) := by
  intro j hj
  obtain ⟨fl, h1, h2, h3⟩ := hw j hj
  obtain ⟨g1, g2⟩ := RWt.ends h hj h1 h2 h3
  exact ⟨fl, by omega, g1, g2⟩
theorem RWt.eqr {r r' : Nat → Int32} {N nt : Nat} (h : RWt r N nt) (hN : N ≤ 24) (e : EqR r r') : RWt r' N nt := by
  intro j hj
  obtain ⟨fl, h1, h2, h3⟩ := h j hj
  exact ⟨fl, h1, (e _ (by omega)).trans h2, fun q => h3 (by rw [← e _ (by omega)]; exact q)⟩
def sgnI (q : Nat) : Int32 := if q = 0 then 119 else if q = 1 then 97 else if q = 2 then 100 else 103
/-- the text's row and its length, a byte put -/
def wPut (z : Int32) (s : (Nat → Int32) × Nat) : (Nat → Int32) × Nat := (va_up s.1 s.2 z, s.2 + 1)
def wLine (k q : Nat) (s : (Nat → Int32) × Nat) : (Nat → Int32) × Nat :=
  wPut 10 (wPut (sgnI q) (wPut 58 (wPut (nI (48 + k % 10)) (if 9 < k then wPut (nI (48 + k / 10)) s else s))))
theorem wLine_n (k q : Nat) (s : (Nat → Int32) × Nat) : (wLine k q s).2 ≤ s.2 + 5 := by
  unfold wLine wPut
  split <;> simp
def wStepR (r : Nat → Int32) (z : Int32) (k : Nat) (s : (Nat → Int32) × Nat) : (Nat → Int32) × Nat := if r (34 + 7 * k) = z then wLine k (r (34 + 7 * k + 4)).toNatClampNeg s else s
def selI (a b c d e : Int32) (k : Nat) : Int32 := if 4 ≤ k then (if 8 ≤ k then (if 12 ≤ k then (if 16 ≤ k then e else d) else c) else b) else a
def byteI (a b c d e : Int32) (k : Nat) : Int32 := (selI a b c d e k >>> ((24 - nI (8 * (k % 4))) &&& 31)) &&& 255
def appR (a b c d e : Int32) (L : Nat) (f : Nat → Int32) : Nat → Int32 := iter (fun k f => va_up f (L + k) (byteI a b c d e k)) 20 0 f
theorem rem4 {k : Nat} (hk : k < 2 ^ 31) : nI k - nI k / 4 * 4 = nI (k % 4) := pk_rem (d := 4) hk (by decide) (by decide)
theorem rem10 {k : Nat} (hk : k < 2 ^ 31) : nI k - nI k / 10 * 10 = nI (k % 10) := pk_rem (d := 10) hk (by decide) (by decide)
theorem div10 {k : Nat} (hk : k < 2 ^ 31) : nI k / 10 = nI (k / 10) := pk_div (d := 10) hk (by decide) (by decide)
theorem yS_up3 {y : Nat → Nat → Int32} {r : Nat → Int32} : va_up (yS y 3 0) 3 r = yS (va_up y 3 r) 3 0 := va_up_comm y (by decide) _ _
theorem y8_row (y : Nat → Nat → Int32) (f : Nat → Int32) (v : Int32) : (yS (va_up y 8 f) 9 v) 8 = f := rfl
theorem y8_step (y : Nat → Nat → Int32) (f g : Nat → Int32) (v v2 : Int32) : yS (va_up (yS (va_up y 8 f) 9 v) 8 g) 9 v2 = yS (va_up y 8 g) 9 v2 := by
  have e : va_up (yS (va_up y 8 f) 9 v) 8 g = yS (va_up y 8 g) 9 v := by
    unfold yS
    rw [va_up_comm _ (by decide), va_up_same]
    rfl
  rw [e, yS_same]
theorem app_enter {y : Nat → Nat → Int32} {L : Nat} (hL : y 0 1 = nI L) : yS y 3 0 = yS (yS (va_up y 7 (y 7)) 3 0) 1 (nI (L + 0)) := by
  have e : va_up y 7 (y 7) = y := by
    funext k
    simp only [va_up]
    split
    · rename_i h; rw [h]
    · rfl
  rw [e]
  funext j
  by_cases h : j = 0
  · subst h
    funext k
    show va_up (y 0) 3 0 k = va_up (va_up (y 0) 3 0) 1 (nI L) k
    by_cases h2 : k = 1
    · subst h2; exact hL
    · rw [va_up_ne _ _ h2]
  · rw [yS_row _ _ _ _ h, yS_row _ _ _ _ h, yS_row _ _ _ _ h]
