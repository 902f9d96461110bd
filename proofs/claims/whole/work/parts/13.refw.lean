/-! the reference's object and its eight rows -/
theorem erase_perm : ∀ {ws : va_W} {p : Nat} {x : Nat × va_E}, ws[p]? = some x → ws.Perm (x :: ws.eraseIdx p)
  | a :: l, 0, x, h => by
    obtain rfl : a = x := by simpa using h
    exact List.Perm.refl _
  | a :: l, p + 1, x, h => by
    have h1 : l[p]? = some x := by simpa using h
    exact ((erase_perm h1).cons a).trans (List.Perm.swap x a _)
theorem Foc.one {ws : va_W} {q : Nat} {e e1 : va_E} (p : Nat) (h : ws[p]? = some (q, e)) : Foc ws [(q, e)] (ws.set p (q, e1)) [(q, e1)] := by
  refine ⟨ws.eraseIdx p, erase_perm h, ?_⟩
  have hl : p < ws.length := (List.getElem?_eq_some_iff.mp h).1
  have h1 : (ws.set p (q, e1))[p]? = some (q, e1) := by rw [List.getElem?_set, if_pos _root_.rfl, if_pos hl]
  have h2 := erase_perm h1
  rw [List.eraseIdx_set_eq] at h2
  exact h2
theorem Foc.two {ws : va_W} {x : Nat × va_E} {q : Nat} {e e1 : va_E} (p p2 : Nat) (h : ws[p]? = some (q, e)) (h2 : (ws.eraseIdx p)[p2]? = some x) : Foc ws [x, (q, e)] (ws.set p (q, e1)) [x, (q, e1)] := by
  have hl : p < ws.length := (List.getElem?_eq_some_iff.mp h).1
  have h1 : (ws.set p (q, e1))[p]? = some (q, e1) := by rw [List.getElem?_set, if_pos _root_.rfl, if_pos hl]
  have h3 := erase_perm h1
  rw [List.eraseIdx_set_eq] at h3
  refine ⟨(ws.eraseIdx p).eraseIdx p2, ?_, ?_⟩
  · exact ((erase_perm h).trans ((erase_perm h2).cons _)).trans (List.Perm.swap _ _ _)
  · exact (h3.trans ((erase_perm h2).cons _)).trans (List.Perm.swap _ _ _)
/-- contents y: row 0 undos, length, error, thrown, at, begin, kind, value, isWrong, written; 1 now, 2 draft, 3 spare, 4 earlier, 5 slots, 6 isKept, 7 buffer, 8 out; w: the word -/
def REF (T : Nat → ClassId) (b : Nat → Nat) (y : Nat → Nat → Int32) (w : Int64) : va_W :=
  [(b 0, .inr (10, [.ref (b 1), .ref (b 2), .ref (b 3), .ref (b 4), .ref (b 5), .ref (b 6), .int (y 0 0), .ref (b 7), .int (y 0 1), .int (y 0 2), .int (y 0 3), .int (y 0 4), .int (y 0 5), .int (y 0 6), .int (y 0 7), .long w, .int (y 0 8), .ref (b 8), .int (y 0 9)])),
   (b 1, .inl (T 0, 202, .inl (y 1))),
   (b 2, .inl (T 0, 202, .inl (y 2))),
   (b 3, .inl (T 0, 202, .inl (y 3))),
   (b 4, .inl (T 0, 1616, .inl (y 4))),
   (b 5, .inl (T 0, 404, .inl (y 5))),
   (b 6, .inl (T 1, 2, .inl (y 6))),
   (b 7, .inl (T 0, 600, .inl (y 7))),
   (b 8, .inl (T 0, 200, .inl (y 8)))]
/-- a field of the reference's object set -/
def yS (y : Nat → Nat → Int32) (i : Nat) (v : Int32) : Nat → Nat → Int32 := va_up y 0 (va_up (y 0) i v)
theorem yS_same (y : Nat → Nat → Int32) (i : Nat) (v v2 : Int32) : yS (yS y i v) i v2 = yS y i v2 := by
  funext j
  by_cases h : j = 0
  · subst h
    show va_up (va_up (y 0) i v) i v2 = va_up (y 0) i v2
    funext k
    by_cases h2 : k = i
    · simp [va_up, h2]
    · simp [va_up, h2]
  · simp [yS, va_up, h]
theorem yS_row (y : Nat → Nat → Int32) (i k : Nat) (v : Int32) (hk : k ≠ 0) : (yS y i v) k = y k := if_neg hk
theorem yS_0 (y : Nat → Nat → Int32) (i j : Nat) (v : Int32) : (yS y i v) 0 j = if j = i then v else y 0 j := rfl
def inN (z : Int32) (n : Nat) : Bool := decide (0 ≤ z) && decide (z < nI n)
theorem inN_t {z : Int32} {n : Nat} (hn : n < 2 ^ 31) (h : inN z n = true) : ∃ j, j < n ∧ z = nI j ∧ z.toNatClampNeg = j := by
  simp only [inN, Bool.and_eq_true, decide_eq_true_eq] at h
  rcases pk_ix z hn with g | g | ⟨j, g1, g2⟩
  · exact absurd h.1 (Int32.not_le.mpr g)
  · exact absurd h.2 (Int32.not_lt.mpr g)
  · exact ⟨j, g1, g2, by rw [g2]; exact nI_clamp (by omega)⟩
theorem inN_nI {j n : Nat} (hn : n < 2 ^ 31) (hj : j < n) : inN (nI j) n = true := by
  simp only [inN, decide_eq_true (nI_pos' (n := j) (by omega)), decide_eq_true (nI_lt hj hn)]; rfl
theorem pred_lt {z : Int32} {n : Nat} (hn : n < 2 ^ 20) : z ≤ nI n - 1 ↔ z < nI n := by
  rw [Int32.le_iff_toInt_le, Int32.lt_iff_toInt_lt]
  have h1 : (nI n - 1).toInt = (n : Int) - 1 := by
    have := pk_sub_toInt (a := n) (b := 1) (by omega) (by omega)
    exact this
  rw [h1, nI_toInt (by omega)]
  omega
theorem inN_R {z : Int32} {n : Nat} (hn : n < 2 ^ 20) : (decide (0 ≤ z) && decide (z ≤ nI n - 1)) = inN z n := by
  unfold inN
  congr 1
  exact decide_eq_decide.mpr (pred_lt hn)
/-- what the reference's row of the present holds at every call's beginning -/
def RI (r : Nat → Int32) (N K C nt : Nat) : Prop := r 6 = nI N ∧ N ≤ 24 ∧ r 5 = nI K ∧ K ≤ 5 ∧ r 4 = nI C ∧ 0 < C ∧ C ≤ 10 ∧ r 0 = nI nt ∧ nt < 2 ^ 18 ∧ (∀ k, k < N → ∃ q, q < 4 ∧ r (34 + 7 * k + 1) = nI q) ∧ (∀ j, j < K → ∃ S, S ≤ 9 ∧ r (19 + 3 * j) = nI S)
theorem rg_sort {z : Int32} (h : rg z 0 3 = true) : ∃ q, q < 4 ∧ z = nI q ∧ z.toNatClampNeg = q := by
  have : inN z 4 = true := by
    rw [← inN_R (n := 4) (by decide)]
    exact h
  exact inN_t (by decide) this
theorem rg_nat {z : Int32} {n : Nat} (hn : n < 2 ^ 19) (h : rg z 0 (nI n) = true) : ∃ q, q ≤ n ∧ z = nI q ∧ z.toNatClampNeg = q := by
  have : inN z (n + 1) = true := by
    rw [← inN_R (n := n + 1) (by omega), nI_pred]
    exact h
  obtain ⟨j, h1, h2, h3⟩ := inN_t (by omega) this
  exact ⟨j, by omega, h2, h3⟩
def keepRow (y : Nat → Nat → Int32) : Nat → Int32 :=
  if y 0 0 = 8 then rLay (y 1) 0 (202 * 7) (iter (fun k f => rLayS (202 * k) (202 * (k - 1)) f) 7 1 (y 4)) else rLay (y 1) 0 (202 * (y 0 0).toNatClampNeg) (y 4)
def keepUn (y : Nat → Nat → Int32) : Int32 := if y 0 0 = 8 then 8 else y 0 0 + 1
/-- a change kept for undoing -/
def rKeep (y : Nat → Nat → Int32) : Nat → Nat → Int32 := yS (va_up y 4 (keepRow y)) 0 (keepUn y)
def cntJ (r : Nat → Int32) (C nt q : Nat) : Int32 := cntI (fun j => justB q (r 1) (r 2) (r 3) j (r (9 + j % C))) (nt + 28 - nt) nt 0
def nextR (r : Nat → Int32) (C nt q : Nat) : Option Nat := ffind (fun k => justB q (r 1) (r 2) (r 3) k (r (9 + k % C))) (nt + 280 - nt) nt
def likeR (f : Nat → Int32) : Nat := iter (fun q b => if f b < f q then q else b) 3 1 0
def angR0 (r : Nat → Int32) (N : Nat) : Option Nat := bestB (fun k => decide (r (34 + 7 * k + 4) = 0)) (fun k j => decide (r (34 + 7 * j + 2) < r (34 + 7 * k + 2))) N 0 none
theorem angR0_lt {r : Nat → Int32} {N j : Nat} (h : angR0 r N = some j) : j < N ∧ r (34 + 7 * j + 4) = 0 := by
  rcases bestB_lt h with g | ⟨_, g2, g3⟩
  · cases g
  · simp at g3; exact ⟨by omega, g3⟩
def darkR (r : Nat → Int32) (K : Nat) : Nat := iter (fun k b => if r (19 + 3 * k + 1) < r (19 + 3 * b + 1) then k else b) (K - 1) 1 0
def persR (r : Nat → Int32) (z : Int32) (N : Nat) : Int32 := cntI (fun k => decide (r (34 + 7 * k) = z)) N 0 0
theorem rLay_at {r1 r2 : Nat → Int32} {beg pl : Nat} : ∀ (n k : Nat) (f : Nat → Int32) (i : Nat), iter (fun k f => va_up f (pl + k) (r1 (beg + k))) n k f i = if pl + k ≤ i ∧ i < pl + k + n then r1 (beg + (i - pl)) else f i
  | 0, k, f, i => by
    rw [if_neg (by omega)]; rfl
  | n + 1, k, f, i => by
    show iter (fun k f => va_up f (pl + k) (r1 (beg + k))) n (k + 1) (va_up f (pl + k) (r1 (beg + k))) i = _
    rw [rLay_at (r1 := r1) (r2 := r2) n (k + 1)]
    by_cases h : i = pl + k
    · subst h
      rw [if_neg (by omega), if_pos (by omega)]
      simp [va_up]
    · by_cases h2 : pl + (k + 1) ≤ i ∧ i < pl + (k + 1) + n
      · rw [if_pos h2, if_pos (by omega)]
      · rw [if_neg h2, if_neg (by omega), va_up_ne _ _ h]
theorem rLay_in {r1 r2 : Nat → Int32} {beg pl i : Nat} (h1 : pl ≤ i) (h2 : i < pl + 202) : rLay r1 beg pl r2 i = r1 (beg + (i - pl)) := by
  unfold rLay
  rw [rLay_at (r1 := r1) (r2 := r2) 202 0 r2 i, if_pos (by omega)]
theorem rLay_out {r1 r2 : Nat → Int32} {beg pl i : Nat} (h : i < pl ∨ pl + 202 ≤ i) : rLay r1 beg pl r2 i = r2 i := by
  unfold rLay
  rw [rLay_at (r1 := r1) (r2 := r2) 202 0 r2 i, if_neg (by omega)]
theorem rLay_0 {r1 r2 : Nat → Int32} {i : Nat} (h : i < 202) : rLay r1 0 0 r2 i = r1 i := by
  rw [rLay_in (by omega) (by omega)]; congr 1; omega
/-- rows alike in their 202 places -/
def EqR (r r' : Nat → Int32) : Prop := ∀ i, i < 202 → r' i = r i
theorem RI.eqr {r r' : Nat → Int32} {N K C nt : Nat} (h : RI r N K C nt) (e : EqR r r') : RI r' N K C nt := by
  obtain ⟨hN, hN2, hKn, hK2, hC, hC1, hC2, hn, hnt, hSo, hSK⟩ := h
  exact ⟨(e 6 (by omega)).trans hN, hN2, (e 5 (by omega)).trans hKn, hK2, (e 4 (by omega)).trans hC, hC1, hC2, (e 0 (by omega)).trans hn, hnt, fun k hk => by obtain ⟨q, g1, g2⟩ := hSo k hk; exact ⟨q, g1, (e _ (by omega)).trans g2⟩, fun j hj => by obtain ⟨S, g1, g2⟩ := hSK j hj; exact ⟨S, g1, (e _ (by omega)).trans g2⟩⟩
def fileCode (r : Nat → Int32) (N : Nat) (z z1 z2 : Int32) : Int32 :=
  if rg z 0 99 && rg z1 0 3 && rg z2 1 9 then (if N = 24 then 2 else if (findR r z z1 N).isSome then 2 else 0) else 1
theorem oI_some {b : Option Nat} (h : ¬ oI b < 0) : ∃ j, b = some j := by
  cases b with
  | none => exact absurd (by decide) h
  | some j => exact ⟨j, rfl⟩
theorem rGrows_at {r : Nat → Int32} {k j f : Nat} (hf : f < 7) (h : j ≠ k) : rGrows k r (34 + 7 * j + f) = r (34 + 7 * j + f) := by
  unfold rGrows rGrow rCloses
  split
  · split <;> split <;> (repeat rw [va_up_ne _ _ (by omega)]) <;> (try rfl)
  · rfl
theorem rGrows_cong {r r' : Nat → Int32} {k f : Nat} (hf : f < 7) (h0 : r' 0 = r 0) (h : ∀ f, f < 7 → r' (34 + 7 * k + f) = r (34 + 7 * k + f)) : rGrows k r' (34 + 7 * k + f) = rGrows k r (34 + 7 * k + f) := by
  have h4 := h 4 (by omega)
  have h3 := h 3 (by omega)
  have h2 := h 2 (by omega)
  have hff := h f hf
  have up : ∀ (g g' : Nat → Int32) (i : Nat) (x x' : Int32), x = x' → g' (34 + 7 * k + f) = g (34 + 7 * k + f) → va_up g' i x' (34 + 7 * k + f) = va_up g i x (34 + 7 * k + f) := by
    intro g g' i x x' hx hg
    simp only [va_up]
    split
    · exact hx.symm
    · exact hg
  unfold rGrows rGrow rCloses
  rw [h4, h3, h0, h2]
  split
  · split
    · refine up _ _ _ _ _ rfl (up _ _ _ _ _ ?_ (up _ _ _ _ _ rfl ?_))
      · split
        · rw [va_up_ne _ _ (by omega), va_up_ne _ _ (by omega), va_up_ne _ _ (by omega), va_up_ne _ _ (by omega)]; exact h0.symm
        · rw [va_up_ne _ _ (by omega), va_up_ne _ _ (by omega)]; exact h0.symm
      · split
        · exact up _ _ _ _ _ rfl hff
        · exact hff
    · split
      · exact up _ _ _ _ _ rfl hff
      · exact hff
  · exact hff
/-- each complaint's growing looks at its own places and the night alone -/
theorem rGrowsAll_at {f : Nat} (hf : f < 7) {j : Nat} : ∀ {n k : Nat} {r : Nat → Int32}, iter rGrows n k r (34 + 7 * j + f) = if k ≤ j ∧ j < k + n then rGrows j r (34 + 7 * j + f) else r (34 + 7 * j + f)
  | 0, k, r => by rw [if_neg (by omega)]; rfl
  | n + 1, k, r => by
    show iter rGrows n (k + 1) (rGrows k r) (34 + 7 * j + f) = _
    rw [rGrowsAll_at hf (n := n) (k := k + 1) (r := rGrows k r)]
    by_cases h : j = k
    · subst h
      rw [if_neg (by omega), if_pos (by omega)]
    · by_cases h2 : k + 1 ≤ j ∧ j < k + 1 + n
      · rw [if_pos h2, if_pos (by omega)]
        exact rGrows_cong hf (rGrows_lo (by omega)) (fun f hf => rGrows_at hf h)
      · rw [if_neg h2, if_neg (by omega)]
        exact rGrows_at hf h
theorem rGrows_keep {r : Nat → Int32} {k f : Nat} (hf : f = 0 ∨ f = 1 ∨ f = 3) : rGrows k r (34 + 7 * k + f) = r (34 + 7 * k + f) := by
  unfold rGrows rGrow rCloses
  split
  · rcases hf with rfl | rfl | rfl <;> split <;> split <;> (repeat rw [va_up_ne _ _ (by omega)]) <;> (try rfl)
  · rfl
theorem rGrowsAll_keep {f j n k : Nat} {r : Nat → Int32} (hf : f = 0 ∨ f = 1 ∨ f = 3) : iter rGrows n k r (34 + 7 * j + f) = r (34 + 7 * j + f) := by
  rw [rGrowsAll_at (by omega)]
  split
  · exact rGrows_keep hf
  · rfl
theorem rEnds2_KR {r : Nat → Int32} {N K C nt : Nat} (hK : K ≤ 5) : KR r (iter (rClerks N C nt) K 0 r) := KR.clerks (by omega) KR.rfl
theorem RI.ends {r : Nat → Int32} {N K C nt : Nat} (h : RI r N K C nt) (hb : nt + 1 < 2 ^ 18) : RI (rEnds N K C nt r) N K C (nt + 1) := by
  obtain ⟨hN, hN2, hKn, hK2, hC, hC1, hC2, hn, hnt, hSo, hSK⟩ := h
  have g := rEnds2_KR (r := r) (N := N) (K := K) (C := C) (nt := nt) hK2
  have lo : ∀ i, i < 34 → i ≠ 0 → rEnds N K C nt r i = iter (rClerks N C nt) K 0 r i := fun i hi h0 => by
    unfold rEnds; rw [rGrowsAll_lo hi]; unfold rEnds2; rw [va_up_ne _ _ h0]
  refine ⟨(lo 6 (by omega) (by omega)).trans ((g.1 6 (by omega)).trans hN), hN2, (lo 5 (by omega) (by omega)).trans ((g.1 5 (by omega)).trans hKn), hK2, (lo 4 (by omega) (by omega)).trans ((g.1 4 (by omega)).trans hC), hC1, hC2, ?_, hb, fun k hk => ?_, fun j hj => ?_⟩
  · unfold rEnds
    rw [rGrowsAll_lo (by omega)]
    show (if 0 = 0 then iter (rClerks N C nt) K 0 r 0 + 1 else iter (rClerks N C nt) K 0 r 0) = nI (nt + 1)
    rw [if_pos rfl, g.1 0 (by omega), hn]
    exact nI_1 nt
  · obtain ⟨q, g1, g2⟩ := hSo k hk
    refine ⟨q, g1, ?_⟩
    unfold rEnds
    rw [rGrowsAll_keep (Or.inr (Or.inl rfl))]
    unfold rEnds2
    rw [va_up_ne _ _ (by omega)]
    exact (g.2.2.2 k).2.1.trans g2
  · obtain ⟨S, g1, g2⟩ := hSK j hj
    exact ⟨S, g1, (lo _ (by omega) (by omega)).trans (((g.2.2.1 j).resolve_right (by omega)).trans g2)⟩
def lay0 (y : Nat → Nat → Int32) : Nat → Int32 := rLay (y 1) 0 0 (y 3)
theorem RI.lay {y : Nat → Nat → Int32} {N K C nt : Nat} (h : RI (y 1) N K C nt) : RI (lay0 y) N K C nt := h.eqr (fun _ hi => rLay_0 hi)
def endsI (N K C nt : Nat) (k : Nat) (s : Int32 × (Nat → Int32)) : Int32 × (Nat → Int32) := (s.1 + (cntR (rEnds N K C (nt + k) s.2) 1 N - cntR s.2 1 N), rEnds N K C (nt + k) s.2)
theorem va_up_same {α : Type} (f : Nat → α) (i : Nat) (v v2 : α) : va_up (va_up f i v) i v2 = va_up f i v2 := by
  funext k
  simp only [va_up]
  split <;> rfl
theorem va_up_comm {α : Type} (f : Nat → α) {i j : Nat} (h : i ≠ j) (v v2 : α) : va_up (va_up f i v) j v2 = va_up (va_up f j v2) i v := by
  funext k
  simp only [va_up]
  split
  · split
    · omega
    · rfl
  · rfl
/-- answersTonight: the spare row's two writings, and thrown -/
theorem va_up_rr {y : Nat → Nat → Int32} (g r : Nat → Int32) : va_up (va_up (yS y 3 0) 3 g) 3 r = yS (va_up y 3 r) 3 0 := by
  rw [va_up_same]
  exact va_up_comm y (by decide) _ _
