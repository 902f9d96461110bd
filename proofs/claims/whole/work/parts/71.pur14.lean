/-! reading a text, both sides: tokens -/
section TK
variable {f f' : Nat → Int32} {L : Nat}
theorem runN_congr {p : Int32 → Bool} (h : ∀ k, k < L → f' k = f k) : ∀ {n k : Nat}, k + n ≤ L → runN p f' n k = runN p f n k
  | 0, _, _ => rfl
  | n + 1, k, hk => by
    show (if p (f' k) then runN p f' n (k + 1) else k) = (if p (f k) then runN p f n (k + 1) else k)
    rw [h k (by omega), runN_congr h (by omega)]
theorem wordF_congr {bg : Nat} (h : ∀ k, k < L → f' k = f k) : ∀ {n k : Nat} {w : Int64}, k + n ≤ L → wordF f' bg n k w = wordF f bg n k w
  | 0, _, _, _ => rfl
  | n + 1, k, w, hk => by
    show (if smallB (f' k) then wordF f' bg n (k + 1) (if k - bg < 10 then 27 * w + (f' k).toInt64 - 96 else w) else (k, w)) = (if smallB (f k) then wordF f bg n (k + 1) (if k - bg < 10 then 27 * w + (f k).toInt64 - 96 else w) else (k, w))
    rw [h k (by omega), wordF_congr h (by omega)]
theorem numF_congr {bg : Nat} (h : ∀ k, k < L → f' k = f k) : ∀ {n k : Nat} {v : Int32}, k + n ≤ L → numF f' bg n k v = numF f bg n k v
  | 0, _, _, _ => rfl
  | n + 1, k, v, hk => by
    show (if digB (f' k) then numF f' bg n (k + 1) (if k - bg < 2 then 10 * v + f' k - 48 else v) else (k, v)) = (if digB (f k) then numF f bg n (k + 1) (if k - bg < 2 then 10 * v + f k - 48 else v) else (k, v))
    rw [h k (by omega), numF_congr h (by omega)]
theorem tkR_congr (h : ∀ k, k < L → f' k = f k) {k0 : Nat} (hk : k0 ≤ L) : tkR f' L k0 = tkR f L k0 := by
  have hb := runN_ge (p := blankB) (f := f) (n := L - k0) (k := k0)
  unfold tkR
  rw [runN_congr h (by omega)]
  generalize runN blankB f (L - k0) k0 = k at hb ⊢
  by_cases hL : k = L
  · rw [if_pos hL, if_pos hL]
  · rw [if_neg hL, if_neg hL, h k (by omega), wordF_congr h (by omega), numF_congr h (by omega)]
/-! a word's letters -/
def wvl : List Nat → Nat
  | [] => 0
  | x :: l => 27 * wvl l + x
theorem wvl_inj : ∀ {l l' : List Nat}, (∀ x ∈ l, 0 < x ∧ x < 27) → (∀ x ∈ l', 0 < x ∧ x < 27) → wvl l = wvl l' → l = l'
  | [], [], _, _, _ => rfl
  | [], x :: l', _, h', e => by
    have := h' x List.mem_cons_self
    have e : 0 = 27 * wvl l' + x := e
    omega
  | x :: l, [], h, _, e => by
    have := h x List.mem_cons_self
    have e : 27 * wvl l + x = 0 := e
    omega
  | x :: l, x' :: l', h, h', e => by
    have g := h x List.mem_cons_self
    have g' := h' x' List.mem_cons_self
    have e : 27 * wvl l + x = 27 * wvl l' + x' := e
    have e1 : x = x' := by omega
    have e2 : wvl l = wvl l' := by omega
    rw [e1, wvl_inj (fun z hz => h z (List.mem_cons_of_mem _ hz)) (fun z hz => h' z (List.mem_cons_of_mem _ hz)) e2]
theorem wvl_lt : ∀ {l : List Nat}, (∀ x ∈ l, 0 < x ∧ x < 27) → wvl l < 27 ^ l.length
  | [], _ => by decide
  | x :: l, h => by
    have g := h x List.mem_cons_self
    have := wvl_lt (l := l) (fun z hz => h z (List.mem_cons_of_mem _ hz))
    show 27 * wvl l + x < 27 ^ (l.length + 1)
    rw [Nat.pow_succ]
    omega
def ltN (f : Nat → Int32) (k : Nat) : Nat := (f k).toNatClampNeg - 96
theorem small_nat {z : Int32} (h : smallB z = true) : ∃ x, (0 < x ∧ x < 27) ∧ z = nI (96 + x) := by
  unfold smallB at h
  rw [Bool.and_eq_true, decide_eq_true_eq, decide_eq_true_eq] at h
  obtain ⟨q, hq, e, -⟩ := rg_nat (z := z) (n := 122) (by decide) (by unfold rg; rw [decide_eq_true (Int32.le_trans (by decide) h.1), decide_eq_true (show z ≤ nI 122 from h.2)]; rfl)
  have h1 := h.1
  rw [e, Int32.le_iff_toInt_le, nI_toInt (by omega), show (97 : Int32).toInt = 97 from by decide] at h1
  exact ⟨q - 96, by omega, by rw [e, show 96 + (q - 96) = q by omega]⟩
theorem ltN_of {f : Nat → Int32} {k : Nat} (h : smallB (f k) = true) : (0 < ltN f k ∧ ltN f k < 27) ∧ f k = nI (96 + ltN f k) := by
  obtain ⟨x, hx, e⟩ := small_nat h
  have : ltN f k = x := by
    unfold ltN
    rw [e, nI_clamp (by omega)]; omega
  rw [this]
  exact ⟨hx, e⟩
/-- the first m letters from s, the last one ahead -/
def seg (f : Nat → Int32) (s : Nat) : Nat → List Nat
  | 0 => []
  | m + 1 => ltN f (s + m) :: seg f s m
theorem seg_len (f : Nat → Int32) (s : Nat) : ∀ m, (seg f s m).length = m
  | 0 => rfl
  | m + 1 => congrArg (· + 1) (seg_len f s m)
theorem seg_mem {f : Nat → Int32} {s : Nat} : ∀ {m : Nat}, (∀ j, j < m → smallB (f (s + j)) = true) → ∀ x ∈ seg f s m, 0 < x ∧ x < 27
  | 0, _, x, hx => by cases hx
  | m + 1, h, x, hx => by
    rcases List.mem_cons.mp hx with rfl | hx
    · exact (ltN_of (h m (by omega))).1
    · exact seg_mem (fun j hj => h j (by omega)) x hx
theorem seg_eq {f w : Nat → Int32} {s t : Nat} : ∀ {m m' : Nat}, seg f s m = seg w t m' ↔ m = m' ∧ ∀ j, j < m → ltN f (s + j) = ltN w (t + j)
  | 0, 0 => ⟨fun _ => ⟨rfl, fun j hj => absurd hj (Nat.not_lt_zero _)⟩, fun _ => rfl⟩
  | 0, m' + 1 => ⟨fun h => by (cases h), fun h => by (cases h.1)⟩
  | m + 1, 0 => ⟨fun h => by (cases h), fun h => by (cases h.1)⟩
  | m + 1, m' + 1 => by
    have ih := seg_eq (f := f) (w := w) (s := s) (t := t) (m := m) (m' := m')
    constructor
    · intro h
      have h : ltN f (s + m) :: seg f s m = ltN w (t + m') :: seg w t m' := h
      obtain ⟨h1, h2⟩ := List.cons.inj h
      obtain ⟨rfl, h3⟩ := ih.mp h2
      refine ⟨rfl, fun j hj => ?_⟩
      by_cases e : j = m
      · rw [e]; exact h1
      · exact h3 j (by omega)
    · rintro ⟨h1, h2⟩
      obtain rfl : m = m' := by omega
      show ltN f (s + m) :: seg f s m = ltN w (t + m) :: seg w t m
      rw [h2 m (by omega), ih.mpr ⟨rfl, fun j hj => h2 j (by omega)⟩]
theorem dig64 (v : Nat) {x : Nat} (hx : x < 27) : 27 * Int64.ofNat v + (nI (96 + x)).toInt64 - 96 = Int64.ofNat (27 * v + x) := by
  have h : ∀ x, x < 27 → (nI (96 + x)).toInt64 - 96 = Int64.ofNat x := by decide +kernel
  rw [Int64.ofNat_add, Int64.ofNat_mul, ← h x hx, Int64.sub_eq_add_neg, Int64.sub_eq_add_neg, Int64.add_assoc]
  rfl
theorem wordF_seg {f : Nat → Int32} {s : Nat} : ∀ {n m : Nat}, (wordF f s n (s + m) (Int64.ofNat (wvl (seg f s (min m 10))))).2 = Int64.ofNat (wvl (seg f s (min (runN smallB f n (s + m) - s) 10)))
  | 0, m => by
    show Int64.ofNat (wvl (seg f s (min m 10))) = Int64.ofNat (wvl (seg f s (min (s + m - s) 10)))
    rw [Nat.add_sub_cancel_left]
  | n + 1, m => by
    show (if smallB (f (s + m)) then wordF f s n (s + m + 1) (if s + m - s < 10 then 27 * Int64.ofNat (wvl (seg f s (min m 10))) + (f (s + m)).toInt64 - 96 else Int64.ofNat (wvl (seg f s (min m 10)))) else (s + m, Int64.ofNat (wvl (seg f s (min m 10))))).2 = Int64.ofNat (wvl (seg f s (min ((if smallB (f (s + m)) then runN smallB f n (s + m + 1) else s + m) - s) 10)))
    by_cases hp : smallB (f (s + m)) = true
    · rw [if_pos hp, if_pos hp, Nat.add_sub_cancel_left]
      refine Eq.trans ?_ (wordF_seg (f := f) (s := s) (n := n) (m := m + 1))
      show (wordF f s n (s + m + 1) _).2 = (wordF f s n (s + m + 1) (Int64.ofNat (wvl (seg f s (min (m + 1) 10))))).2
      obtain ⟨h1, h2⟩ := ltN_of hp
      refine congrArg (fun z => (wordF f s n (s + m + 1) z).2) ?_
      by_cases hm : m < 10
      · rw [if_pos hm, h2, dig64 _ h1.2, show min m 10 = m by omega, show min (m + 1) 10 = m + 1 by omega]
        rfl
      · rw [if_neg hm, show min m 10 = 10 by omega, show min (m + 1) 10 = 10 by omega]
    · rw [if_neg hp, if_neg hp, Nat.add_sub_cancel_left]
theorem runN_all {p : Int32 → Bool} {f : Nat → Int32} : ∀ {n k : Nat} {j : Nat}, k ≤ j → j < runN p f n k → p (f j) = true
  | 0, k, j, h1, h2 => by
    have h2 : j < k := h2
    omega
  | n + 1, k, j, h1, h2 => by
    have h2 : j < (if p (f k) then runN p f n (k + 1) else k) := h2
    by_cases hp : p (f k) = true
    · rw [if_pos hp] at h2
      by_cases e : j = k
      · rw [e]; exact hp
      · exact runN_all (by omega) h2
    · rw [if_neg hp] at h2; omega
theorem eqF_iff {f w : Nat → Int32} {s : Nat} : ∀ {n i : Nat}, eqF f s w n i = true ↔ ∀ j, i ≤ j → j < i + n → f (s + j) = w j
  | 0, i => ⟨fun _ j h1 h2 => by omega, fun _ => rfl⟩
  | n + 1, i => by
    show (if f (s + i) = w i then eqF f s w n (i + 1) else false) = true ↔ _
    by_cases h : f (s + i) = w i
    · rw [if_pos h, eqF_iff]
      constructor
      · intro g j h1 h2
        by_cases e : j = i
        · rw [e]; exact h
        · exact g j (by omega) (by omega)
      · intro g j h1 h2
        exact g j (by omega) (by omega)
    · rw [if_neg h]
      exact ⟨fun g => by (cases g), fun g => absurd (g i (Nat.le_refl _) (by omega)) h⟩
def litW (i : Nat) : Nat := [0, 267233, 49734694, 1834661, 1009466360291, 3957503, 3967636, 400334, 118913].getD i 0
theorem lit_w : ∀ i, i < 9 → 0 < i → litN i < 10 ∧ wvl (seg (litF i) 0 (litN i)) = litW i ∧ ∀ j, j < litN i → smallB (litF i (0 + j)) = true := by decide +kernel
theorem i64_inj {a b : Nat} (ha : a < 27 ^ 10) (hb : b < 27 ^ 10) (h : Int64.ofNat a = Int64.ofNat b) : a = b := by
  have h1 := congrArg Int64.toInt h
  rw [Int64.toInt_ofNat_of_lt (by omega), Int64.toInt_ofNat_of_lt (by omega)] at h1
  omega
theorem word_eq {f : Nat → Int32} {L s i : Nat} (hi : i < 9) (hi0 : 0 < i) : decide ((wordF f s (L - s) s 0).2 = Int64.ofNat (litW i)) = (decide ((wordF f s (L - s) s 0).1 - s = litN i) && eqF f s (litF i) (litN i) 0) := by
  obtain ⟨w1, w2, w3⟩ := lit_w i hi hi0
  have e : (wordF f s (L - s) s 0).2 = Int64.ofNat (wvl (seg f s (min (runN smallB f (L - s) s - s) 10))) := wordF_seg (f := f) (s := s) (n := L - s) (m := 0)
  have e1 : (wordF f s (L - s) s 0).1 = runN smallB f (L - s) s := wordF_at
  have hge := runN_ge (p := smallB) (f := f) (n := L - s) (k := s)
  have hall : ∀ j, j < runN smallB f (L - s) s - s → smallB (f (s + j)) = true := fun j hj => runN_all (n := L - s) (k := s) (by omega) (by omega)
  rw [e, e1]
  generalize runN smallB f (L - s) s = en at hge hall ⊢
  have hm : ∀ x ∈ seg f s (min (en - s) 10), 0 < x ∧ x < 27 := seg_mem (fun j hj => hall j (by omega))
  have hw : ∀ x ∈ seg (litF i) 0 (litN i), 0 < x ∧ x < 27 := seg_mem w3
  have b1 := wvl_lt hm
  have b2 := wvl_lt hw
  rw [seg_len] at b1 b2
  have p1 : 27 ^ (min (en - s) 10) ≤ 27 ^ 10 := Nat.pow_le_pow_right (by decide) (Nat.min_le_right _ _)
  have p2 : 27 ^ (litN i) ≤ 27 ^ 10 := Nat.pow_le_pow_right (by decide) (by omega)
  rw [← w2]
  have key : Int64.ofNat (wvl (seg f s (min (en - s) 10))) = Int64.ofNat (wvl (seg (litF i) 0 (litN i))) ↔ (en - s = litN i ∧ eqF f s (litF i) (litN i) 0 = true) := by
    constructor
    · intro h
      have h2 := wvl_inj hm hw (i64_inj (Nat.lt_of_lt_of_le b1 p1) (Nat.lt_of_lt_of_le b2 p2) h)
      obtain ⟨g1, g2⟩ := seg_eq.mp h2
      refine ⟨by omega, eqF_iff.mpr (fun j _ hj => ?_)⟩
      have a1 := ltN_of (hall j (by omega))
      have a2 := ltN_of (w3 j (by omega))
      rw [Nat.zero_add] at a2
      have g3 := g2 j (by omega)
      rw [Nat.zero_add] at g3
      rw [a1.2, a2.2, g3]
    · rintro ⟨h1, h2⟩
      have h3 := eqF_iff.mp h2
      rw [(seg_eq (f := f) (w := litF i) (s := s) (t := 0) (m := min (en - s) 10) (m' := litN i)).mpr ⟨by omega, fun j hj => by unfold ltN; rw [h3 j (by omega) (by omega), Nat.zero_add]⟩]
  rw [Bool.eq_iff_iff, decide_eq_true_eq, Bool.and_eq_true, decide_eq_true_eq]
  exact key
/-! numbers -/
theorem dig_nat {z : Int32} (h : digB z = true) : ∃ x, x < 10 ∧ z = nI (48 + x) := by
  unfold digB at h
  rw [Bool.and_eq_true, decide_eq_true_eq, decide_eq_true_eq] at h
  obtain ⟨q, hq, e, -⟩ := rg_nat (z := z) (n := 57) (by decide) (by unfold rg; rw [decide_eq_true (Int32.le_trans (by decide) h.1), decide_eq_true (show z ≤ nI 57 from h.2)]; rfl)
  have h1 := h.1
  rw [e, Int32.le_iff_toInt_le, nI_toInt (by omega), show (48 : Int32).toInt = 48 from by decide] at h1
  exact ⟨q - 48, by omega, by rw [e, show 48 + (q - 48) = q by omega]⟩
theorem numF_nb {f : Nat → Int32} {bg : Nat} : ∀ {n k : Nat} {v : Int32}, bg ≤ k → runN digB f n k - bg ≤ 2 → (numF f bg n k v).2 = nbC f (runN digB f n k - k) k v
  | 0, k, v, _, _ => by
    show v = nbC f (k - k) k v
    rw [Nat.sub_self]; rfl
  | n + 1, k, v, hk, h2 => by
    have h2 : (if digB (f k) then runN digB f n (k + 1) else k) - bg ≤ 2 := h2
    show (if digB (f k) then numF f bg n (k + 1) (if k - bg < 2 then 10 * v + f k - 48 else v) else (k, v)).2 = nbC f ((if digB (f k) then runN digB f n (k + 1) else k) - k) k v
    by_cases hp : digB (f k) = true
    · rw [if_pos hp] at h2
      have hge := runN_ge (p := digB) (f := f) (n := n) (k := k + 1)
      rw [if_pos hp, if_pos hp, if_pos (by omega), numF_nb (by omega) h2, show runN digB f n (k + 1) - k = (runN digB f n (k + 1) - (k + 1)) + 1 by omega]
      show _ = nbC f (runN digB f n (k + 1) - (k + 1)) (k + 1) (v * 10 + f k - 48)
      rw [Int32.mul_comm]
    · rw [if_neg hp, if_neg hp, Nat.sub_self]; rfl
theorem nb_nat {f : Nat → Int32} {s e : Nat} (h1 : s < e) (h2 : e ≤ s + 2) (hd : ∀ j, s ≤ j → j < e → digB (f j) = true) : ∃ x, x ≤ 99 ∧ nbC f (e - s) s 0 = nI x := by
  obtain ⟨a, ha, ea⟩ := dig_nat (hd s (Nat.le_refl _) h1)
  by_cases c : e = s + 1
  · rw [c, Nat.add_sub_cancel_left]
    have : ∀ a, a < 10 → (0 : Int32) * 10 + nI (48 + a) - 48 = nI a := by decide +kernel
    refine ⟨a, by omega, ?_⟩
    show (0 : Int32) * 10 + f s - 48 = nI a
    rw [ea, this a ha]
  · obtain ⟨b, hb, eb⟩ := dig_nat (hd (s + 1) (by omega) (by omega))
    have : ∀ a, a < 10 → ∀ b, b < 10 → ((0 : Int32) * 10 + nI (48 + a) - 48) * 10 + nI (48 + b) - 48 = nI (10 * a + b) := by decide +kernel
    rw [show e - s = 2 by omega]
    refine ⟨10 * a + b, by omega, ?_⟩
    show ((0 : Int32) * 10 + f s - 48) * 10 + f (s + 1) - 48 = nI (10 * a + b)
    rw [ea, eb, this a ha b hb]
end TK
