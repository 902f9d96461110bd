/-! what the class's reader does: kind, start, end, failed, where -/
def advC (f : Nat → Int32) (L : Nat) (g : CSt) : CSt := ((tkR f L g.2.2.1).2.2.1, (tkR f L g.2.2.1).1, (tkR f L g.2.2.1).2.1, g.2.2.2.1, g.2.2.2.2)
def rewC (f : Nat → Int32) (L : Nat) (g : CSt) : CSt := advC f L (g.1, g.2.1, 0, g.2.2.2.1, g.2.2.2.2)
def refC (g : CSt) : CSt := if g.2.2.2.1 then g else (g.1, g.2.1, g.2.2.1, true, nI g.2.1)
theorem refC_t {g : CSt} (h : g.2.2.2.1 = true) : refC g = g := if_pos h
theorem refC_f {g : CSt} (h : g.2.2.2.1 = false) : refC g = (g.1, g.2.1, g.2.2.1, true, nI g.2.1) := if_neg (by rw [h]; decide)
/-- the text w at st -/
def eqF (f : Nat → Int32) (st : Nat) (w : Nat → Int32) : Nat → Nat → Bool
  | 0, _ => true
  | n + 1, i => if f (st + i) = w i then eqF f st w n (i + 1) else false
theorem eqF_step {f : Nat → Int32} {st : Nat} {w : Nat → Int32} {N i : Nat} (h : i < N) (hp : f (st + i) = w i) : eqF f st w (N - i) i = eqF f st w (N - (i + 1)) (i + 1) := by
  rw [show N - i = (N - (i + 1)) + 1 by omega]
  show (if f (st + i) = w i then _ else _) = _
  rw [if_pos hp]
theorem eqF_stop {f : Nat → Int32} {st : Nat} {w : Nat → Int32} {N i : Nat} (h : i < N) (hp : ¬ f (st + i) = w i) : eqF f st w (N - i) i = false := by
  rw [show N - i = (N - (i + 1)) + 1 by omega]
  show (if f (st + i) = w i then _ else _) = _
  rw [if_neg hp]
theorem eqF_done {f : Nat → Int32} {st : Nat} {w : Nat → Int32} {N i : Nat} (h : N ≤ i) : eqF f st w (N - i) i = true := by
  rw [show N - i = 0 by omega]; rfl
def wordC (f : Nat → Int32) (i : Nat) (g : CSt) : Bool := decide (g.1 = 1) && (decide (g.2.2.1 - g.2.1 = litN i) && eqF f g.2.1 (litF i) (litN i) 0)
def nbC (f : Nat → Int32) : Nat → Nat → Int32 → Int32
  | 0, _, v => v
  | n + 1, i, v => nbC f n (i + 1) (v * 10 + f i - 48)
theorem nbC_step {f : Nat → Int32} {N i : Nat} {v : Int32} (h : i < N) : nbC f (N - i) i v = nbC f (N - (i + 1)) (i + 1) (v * 10 + f i - 48) := by
  rw [show N - i = (N - (i + 1)) + 1 by omega]; rfl
theorem nbC_done {f : Nat → Int32} {N i : Nat} {v : Int32} (h : N ≤ i) : nbC f (N - i) i v = v := by
  rw [show N - i = 0 by omega]; rfl
def numC (f : Nat → Int32) (g : CSt) : Int32 := if g.1 = 2 then nbC f (g.2.2.1 - g.2.1) g.2.1 0 else -1
def tkC (f : Nat → Int32) (L : Nat) (b : Bool) (g : CSt) : CSt := if !g.2.2.2.1 && b then advC f L g else refC g
theorem tkC_t {f : Nat → Int32} {L : Nat} {b : Bool} {g : CSt} (h : g.2.2.2.1 = false) (hb : b = true) : tkC f L b g = advC f L g := by unfold tkC; rw [h, hb]; rfl
theorem tkC_w {f : Nat → Int32} {L : Nat} {b : Bool} {g : CSt} (h : g.2.2.2.1 = true) : tkC f L b g = refC g := by unfold tkC; rw [h]; rfl
theorem tkC_f {f : Nat → Int32} {L : Nat} {b : Bool} {g : CSt} (h : g.2.2.2.1 = false) (hb : b = false) : tkC f L b g = refC g := by unfold tkC; rw [h, hb]; rfl
/-- start and end lie in order, within the length -/
def gOK (L : Nat) (g : CSt) : Prop := g.2.1 ≤ g.2.2.1 ∧ g.2.2.1 ≤ L
theorem advC_ok {f : Nat → Int32} {L : Nat} {g : CSt} (h : g.2.2.1 ≤ L) : gOK L (advC f L g) := tkR_le h
theorem refC_ok {L : Nat} {g : CSt} (h : gOK L g) : gOK L (refC g) := by
  unfold refC
  split
  · exact h
  · exact h
theorem tkC_ok {f : Nat → Int32} {L : Nat} {b : Bool} {g : CSt} (h : gOK L g) : gOK L (tkC f L b g) := by
  unfold tkC
  split
  · exact advC_ok h.2
  · exact refC_ok h
def takW (f : Nat → Int32) (L i : Nat) (g : CSt) : CSt := tkC f L (wordC f i g) g
def takS (f : Nat → Int32) (L : Nat) (g : CSt) : CSt := tkC f L (decide (g.1 = 3)) g
def takN (f : Nat → Int32) (L : Nat) (lo hi : Int32) (g : CSt) : CSt := tkC f L (rg (numC f g) lo hi) g
def numV (f : Nat → Int32) (lo hi : Int32) (g : CSt) : Int32 := if !g.2.2.2.1 && rg (numC f g) lo hi then numC f g else lo
theorem takW_ok {f : Nat → Int32} {L i : Nat} {g : CSt} (h : gOK L g) : gOK L (takW f L i g) := tkC_ok h
theorem takS_ok {f : Nat → Int32} {L : Nat} {g : CSt} (h : gOK L g) : gOK L (takS f L g) := tkC_ok h
theorem takN_ok {f : Nat → Int32} {L : Nat} {lo hi : Int32} {g : CSt} (h : gOK L g) : gOK L (takN f L lo hi g) := tkC_ok h
def sortC (f : Nat → Int32) (g : CSt) : Int32 := if wordC f 5 g then 0 else if wordC f 6 g then 1 else if wordC f 7 g then 2 else if wordC f 8 g then 3 else -1
def srtB (f : Nat → Int32) (o : Nat → Nat → Int32) (z : Int32) (N : Nat) (g : CSt) : Bool := !decide (sortC f g = -1) && (findC o z (sortC f g) N).isNone
def takT (f : Nat → Int32) (L : Nat) (o : Nat → Nat → Int32) (z : Int32) (N : Nat) (g : CSt) : CSt := tkC f L (srtB f o z N g) g
def sortV (f : Nat → Int32) (o : Nat → Nat → Int32) (z : Int32) (N : Nat) (g : CSt) : Int32 := if !g.2.2.2.1 && srtB f o z N g then sortC f g else 0
theorem takT_ok {f : Nat → Int32} {L : Nat} {o : Nat → Nat → Int32} {z : Int32} {N : Nat} {g : CSt} (h : gOK L g) : gOK L (takT f L o z N g) := tkC_ok h
/-- the draft's scalar set -/
def dS (o : Nat → Nat → Int32) (i : Nat) (x : Int32) : Nat → Nat → Int32 := va_up o 0 (va_up (o 0) i x)
abbrev DSt : Type := (Nat → Nat → Int32) × CSt
def moon1 (f : Nat → Int32) (L : Nat) (g : CSt) : CSt := takW f L 1 g
def moon2 (f : Nat → Int32) (L : Nat) (g : CSt) : CSt := takN f L 1 14 (moon1 f L g)
def moon3 (f : Nat → Int32) (L : Nat) (g : CSt) : CSt := takN f L 0 13 (moon2 f L g)
def moon4 (f : Nat → Int32) (L : Nat) (g : CSt) : CSt := takN f L 0 7 (moon3 f L g)
def moonC (f : Nat → Int32) (L : Nat) (s : DSt) : DSt :=
  (dS (dS (dS s.1 1 (numV f 1 14 (moon1 f L s.2))) 2 (numV f 0 13 (moon2 f L s.2))) 3 (numV f 0 7 (moon3 f L s.2)), takS f L (moon4 f L s.2))
def addCl (o : Nat → Nat → Int32) (C : Nat) (z : Int32) : Nat → Nat → Int32 := va_up (va_up o 0 (va_up (o 0) 4 (nI (C + 1)))) 1 (va_up (o 1) C z)
def cl1 (f : Nat → Int32) (L C : Nat) (s : DSt) : DSt := (addCl s.1 C (numV f 0 9 s.2), takN f L 0 9 s.2)
def clB (s : DSt) : Bool := !s.2.2.2.2.1 && decide (s.2.1 = 2)
def clL (f : Nat → Int32) (L : Nat) : Nat → Nat → DSt → Nat × DSt
  | 0, C, s => (C, s)
  | n + 1, C, s => if clB s then clL f L n (C + 1) (cl1 f L C s) else (C, s)
theorem clL_step {f : Nat → Int32} {L C : Nat} {s : DSt} (h : C < 10) (hb : clB s = true) : clL f L (10 - C) C s = clL f L (10 - (C + 1)) (C + 1) (cl1 f L C s) := by
  rw [show 10 - C = (10 - (C + 1)) + 1 by omega]
  show (if clB s then _ else _) = _
  rw [if_pos hb]
theorem clL_stop {f : Nat → Int32} {L C : Nat} {s : DSt} (hb : clB s = false) : clL f L (10 - C) C s = (C, s) := by
  by_cases h : C < 10
  · rw [show 10 - C = (10 - (C + 1)) + 1 by omega]
    show (if clB s then _ else _) = _
    rw [hb]; rfl
  · rw [show 10 - C = 0 by omega]; rfl
theorem clL_done {f : Nat → Int32} {L C : Nat} {s : DSt} (h : 10 ≤ C) : clL f L (10 - C) C s = (C, s) := by
  rw [show 10 - C = 0 by omega]; rfl
/-- clouds: how many, draft, reader -/
def cloudsC (f : Nat → Int32) (L : Nat) (s : DSt) : Nat × DSt :=
  ((clL f L 9 1 (cl1 f L 0 (s.1, takW f L 2 s.2))).1, (clL f L 9 1 (cl1 f L 0 (s.1, takW f L 2 s.2))).2.1, takS f L (clL f L 9 1 (cl1 f L 0 (s.1, takW f L 2 s.2))).2.2)
def ck1 (f : Nat → Int32) (L : Nat) (g : CSt) : CSt := takW f L 3 g
def ck2 (f : Nat → Int32) (L : Nat) (g : CSt) : CSt := takN f L 1 9 (ck1 f L g)
def ck3 (f : Nat → Int32) (L : Nat) (g : CSt) : CSt := takN f L 0 99 (ck2 f L g)
def ckA (f : Nat → Int32) (L K : Nat) (s : DSt) : DSt := (staffAdd s.1 K (numV f 1 9 (ck1 f L s.2)) (numV f 0 99 (ck2 f L s.2)), takS f L (ck3 f L s.2))
def ckB (f : Nat → Int32) (i : Nat) (s : DSt) : Bool := !s.2.2.2.2.1 && wordC f i s.2
def ckL (f : Nat → Int32) (L : Nat) : Nat → Nat → DSt → Nat × DSt
  | 0, K, s => (K, s)
  | n + 1, K, s => if ckB f 3 s then ckL f L n (K + 1) (ckA f L K s) else (K, s)
theorem ckL_step {f : Nat → Int32} {L K : Nat} {s : DSt} (h : K < 5) (hb : ckB f 3 s = true) : ckL f L (5 - K) K s = ckL f L (5 - (K + 1)) (K + 1) (ckA f L K s) := by
  rw [show 5 - K = (5 - (K + 1)) + 1 by omega]
  show (if ckB f 3 s then _ else _) = _
  rw [if_pos hb]
theorem ckL_stop {f : Nat → Int32} {L K : Nat} {s : DSt} (hb : ckB f 3 s = false) : ckL f L (5 - K) K s = (K, s) := by
  by_cases h : K < 5
  · rw [show 5 - K = (5 - (K + 1)) + 1 by omega]
    show (if ckB f 3 s then _ else _) = _
    rw [hb]; rfl
  · rw [show 5 - K = 0 by omega]; rfl
theorem ckL_done {f : Nat → Int32} {L K : Nat} {s : DSt} (h : 5 ≤ K) : ckL f L (5 - K) K s = (K, s) := by
  rw [show 5 - K = 0 by omega]; rfl
def co1 (f : Nat → Int32) (L : Nat) (g : CSt) : CSt := takW f L 4 g
def co2 (f : Nat → Int32) (L : Nat) (g : CSt) : CSt := takN f L 0 99 (co1 f L g)
def co3 (f : Nat → Int32) (L N : Nat) (s : DSt) : CSt := takT f L s.1 (numV f 0 99 (co1 f L s.2)) N (co2 f L s.2)
def co4 (f : Nat → Int32) (L N : Nat) (s : DSt) : CSt := takN f L 1 9 (co3 f L N s)
def coA (f : Nat → Int32) (L N : Nat) (s : DSt) : DSt :=
  (pileAdd s.1 N (numV f 0 99 (co1 f L s.2)) (sortV f s.1 (numV f 0 99 (co1 f L s.2)) N (co2 f L s.2)) (numV f 1 9 (co3 f L N s)) 0, takS f L (co4 f L N s))
def coL (f : Nat → Int32) (L : Nat) : Nat → Nat → DSt → Nat × DSt
  | 0, N, s => (N, s)
  | n + 1, N, s => if ckB f 4 s then coL f L n (N + 1) (coA f L N s) else (N, s)
theorem coL_step {f : Nat → Int32} {L N : Nat} {s : DSt} (h : N < 24) (hb : ckB f 4 s = true) : coL f L (24 - N) N s = coL f L (24 - (N + 1)) (N + 1) (coA f L N s) := by
  rw [show 24 - N = (24 - (N + 1)) + 1 by omega]
  show (if ckB f 4 s then _ else _) = _
  rw [if_pos hb]
theorem coL_stop {f : Nat → Int32} {L N : Nat} {s : DSt} (hb : ckB f 4 s = false) : coL f L (24 - N) N s = (N, s) := by
  by_cases h : N < 24
  · rw [show 24 - N = (24 - (N + 1)) + 1 by omega]
    show (if ckB f 4 s then _ else _) = _
    rw [hb]; rfl
  · rw [show 24 - N = 0 by omega]; rfl
theorem coL_done {f : Nat → Int32} {L N : Nat} {s : DSt} (h : 24 ≤ N) : coL f L (24 - N) N s = (N, s) := by
  rw [show 24 - N = 0 by omega]; rfl
