/-! the two sides alike: the oldest, numbers of those that changed -/
theorem minF_thr {p : Nat → Bool} {f : Nat → Int32} {n i : Nat} {S : Int32} : (minF p f n i (none, S)).1 = (match bestB p (fun k j => decide (f k < f j)) n i none with | none => none | some j => if f j < S then some j else none) := by
  have := iter_rel (f := fun k s => if p k && decide (f k < s.2) then (some k, f k) else s) (g := bstep p (fun k j => decide (f k < f j))) (fun _ (s : Option Nat × Int32) b => s = (match b with | none => (none, S) | some j => if f j < S then (some j, f j) else (none, S))) (n := n) (i := i) (x := (none, S)) (y := none) rfl (by
    rintro k s b h1 h2 h3
    subst h3
    cases b with
    | none =>
      by_cases hp : p k = true
      · simp [bstep, hp]
      · simp [bstep, hp]
    | some j =>
      by_cases hp : p k = true
      · by_cases hj : f j < S
        · by_cases hq : f k < f j
          · have : f k < S := Int32.lt_trans hq hj
            simp [bstep, hp, hj, hq, this]
          · simp [bstep, hp, hj, hq]
        · by_cases hk : f k < S
          · have hq : f k < f j := by
              rw [Int32.lt_iff_toInt_lt] at hj hk ⊢
              omega
            simp [bstep, hp, hj, hk, hq]
          · by_cases hq : f k < f j
            · simp [bstep, hp, hj, hk, hq]
            · simp [bstep, hp, hj, hk, hq]
      · simp [bstep, hp])
  show (iter _ n i (none, S)).1 = _
  rw [this]
  show _ = (match iter _ n i none with | none => none | some j => if f j < S then some j else none)
  split
  · rfl
  · split <;> rfl
theorem old_ge {nt fl : Nat} (h1 : fl ≤ nt) (h2 : nt < 2 ^ 18) : nI fl < nI nt - 14 + 1 ↔ 14 ≤ nI nt - nI fl := by
  have e1 : (nI nt - nI fl).toInt = (nt : Int) - fl := pk_sub_toInt (by omega) (by omega)
  have e2 : (nI nt - nI 14).toInt = (nt : Int) - 14 := pk_sub_toInt (by omega) (by omega)
  have e2 : (nI nt - 14).toInt = (nt : Int) - 14 := e2
  have e3 : (nI nt - 14 + 1).toInt = (nt : Int) - 13 := by
    rw [Int32.toInt_add, e2, show (1 : Int32).toInt = 1 from by decide]
    rw [Int.bmod_def]
    split <;> omega
  rw [Int32.lt_iff_toInt_lt, Int32.le_iff_toInt_le, e1, e3, nI_toInt (by omega), show (14 : Int32).toInt = 14 from by decide]
  omega
theorem cntI_acc {p : Nat → Bool} : ∀ {n i : Nat} {x : Int32}, cntI p n i (x + 1) = cntI p n i x + 1
  | 0, _, _ => rfl
  | n + 1, i, x => by
    show cntI p n (i + 1) (if p i then x + 1 + 1 else x + 1) = cntI p n (i + 1) (if p i then x + 1 else x) + 1
    split
    · exact cntI_acc
    · exact cntI_acc
theorem cntI_flip {p q : Nat → Bool} {k : Nat} (hp : p k = false) (hq : q k = true) (he : ∀ j, j ≠ k → q j = p j) : ∀ {n i : Nat} {x : Int32}, i ≤ k → k < i + n → cntI q n i x = cntI p n i x + 1
  | 0, _, _, h1, h2 => by omega
  | n + 1, i, x, h1, h2 => by
    show cntI q n (i + 1) (if q i then x + 1 else x) = cntI p n (i + 1) (if p i then x + 1 else x) + 1
    by_cases h : i = k
    · subst h
      rw [hp, hq, if_pos rfl, if_neg (by decide), cntI_acc, cntI_congr (p := q) (q := p) (fun j h1 h2 => he j (by omega))]
    · rw [he i h]
      exact cntI_flip hp hq he (by omega) (by omega)
theorem sumI_acc {p : Nat → Bool} {f : Nat → Int32} {c : Int32} : ∀ {n i : Nat} {x : Int32}, sumI p f n i (x + c) = sumI p f n i x + c
  | 0, _, _ => rfl
  | n + 1, i, x => by
    show sumI p f n (i + 1) (if p i then x + c + f i else x + c) = sumI p f n (i + 1) (if p i then x + f i else x) + c
    split
    · rw [Int32.add_assoc, Int32.add_comm c, ← Int32.add_assoc]; exact sumI_acc
    · exact sumI_acc
theorem sumI_flip {p q : Nat → Bool} {f g : Nat → Int32} {k : Nat} (hp : p k = false) (hq : q k = true) (he : ∀ j, j ≠ k → q j = p j) (hf : ∀ j, g j = f j) : ∀ {n i : Nat} {x : Int32}, i ≤ k → k < i + n → sumI q g n i x = sumI p f n i x + f k
  | 0, _, _, h1, h2 => by omega
  | n + 1, i, x, h1, h2 => by
    show sumI q g n (i + 1) (if q i then x + g i else x) = sumI p f n (i + 1) (if p i then x + f i else x) + f k
    by_cases h : i = k
    · subst h
      rw [hp, hq, if_pos rfl, if_neg (by decide), hf, sumI_acc, sumI_congr (p := q) (q := p) (f := g) (g := f) (fun j h1 h2 => he j (by omega)) (fun j _ _ => hf j)]
    · rw [he i h, hf]
      exact sumI_flip hp hq he hf (by omega) (by omega)
section RT
variable {o : Nat → Nat → Int32} {r : Nat → Int32} {N K C nt : Nat}
theorem firstC_old (h : RO o r N K C) (hn : r 0 = nI nt) (hnt : nt < 2 ^ 18) (hw : RWt r N nt) : firstC o (o 0 0 - 14) N = (match oldR r N with | none => none | some q => if 14 ≤ r 0 - r (34 + 7 * q + 3) then some q else none) := by
  have e : bestB (fun k => decide (o 8 k = 0)) (fun k j => decide (o 7 k < o 7 j)) N 0 none = oldR r N := by
    refine bestB_congr (fun j hj => by cases hj) (fun k _ hk => ?_) (fun k j _ hk hj => ?_)
    · rw [show o 8 k = r (34 + 7 * k + 4) from h.p k (by omega) 4 (by decide)]
    · rw [show o 7 k = r (34 + 7 * k + 3) from h.p k (by omega) 3 (by decide), show o 7 j = r (34 + 7 * j + 3) from h.p j (by omega) 3 (by decide)]
  rw [firstC, minF_thr, e]
  cases hq : oldR r N with
  | none => rfl
  | some q =>
    have hqN : q < N := by
      rcases bestB_lt hq with g | ⟨_, g, _⟩
      · cases g
      · omega
    obtain ⟨fl, h1, h2, _⟩ := hw q hqN
    show (if o 7 q < o 0 0 - 14 + 1 then some q else none) = (if 14 ≤ r 0 - r (34 + 7 * q + 3) then some q else none)
    rw [show o 7 q = r (34 + 7 * q + 3) from h.p q hqN 3 (by decide), h.i 0 (by decide), hn, h2]
    by_cases g : nI fl < nI nt - 14 + 1
    · rw [if_pos g, if_pos ((old_ge h1 hnt).mp g)]
    · rw [if_neg g, if_neg (fun q => g ((old_ge h1 hnt).mpr q))]
theorem firstC_oldest (h : RO o r N K C) (hn : r 0 = nI nt) (hnt : nt < 2 ^ 18) (hw : RWt r N nt) : firstC o (o 0 0) N = oldR r N := by
  rw [firstC, minF_best (fun k _ hk _ => ?_)]
  · refine bestB_congr (fun j hj => by cases hj) (fun k _ hk => ?_) (fun k j _ hk hj => ?_)
    · rw [show o 8 k = r (34 + 7 * k + 4) from h.p k (by omega) 4 (by decide)]
    · rw [show o 7 k = r (34 + 7 * k + 3) from h.p k (by omega) 3 (by decide), show o 7 j = r (34 + 7 * j + 3) from h.p j (by omega) 3 (by decide)]
  · obtain ⟨fl, h1, h2, _⟩ := hw k (by omega)
    rw [show o 7 k = r (34 + 7 * k + 3) from h.p k (by omega) 3 (by decide), h2, h.i 0 (by decide), hn]
    show nI fl < nI nt + nI 1
    rw [Int32.lt_iff_toInt_lt, nI_toInt (by omega)]
    have e3 : (nI nt + nI 1).toInt = (nt : Int) + 1 := by
      rw [Int32.toInt_add, nI_toInt (by omega), nI_toInt (by omega), Int.bmod_def]
      split <;> omega
    omega
end RT
