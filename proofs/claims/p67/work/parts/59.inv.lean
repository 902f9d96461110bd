/-! what an office keeps: its numbers' ranges; loops that are the same -/
theorem iter_congr {α : Type} {f g : Nat → α → α} : ∀ {n i : Nat} {x : α}, (∀ k y, i ≤ k → k < i + n → f k y = g k y) → iter f n i x = iter g n i x
  | 0, _, _, _ => rfl
  | n + 1, i, x, h => by
    show iter f n (i + 1) (f i x) = iter g n (i + 1) (g i x)
    rw [h i x (Nat.le_refl _) (by omega)]
    exact iter_congr (fun k y h1 h2 => h k y (by omega) (by omega))
/-- an invariant through a loop, two sides -/
theorem iter_rel {α β : Type} {f : Nat → α → α} {g : Nat → β → β} (R : Nat → α → β → Prop) : ∀ {n i : Nat} {x : α} {y : β}, R i x y → (∀ k x y, i ≤ k → k < i + n → R k x y → R (k + 1) (f k x) (g k y)) → R (i + n) (iter f n i x) (iter g n i y)
  | 0, _, _, _, h, _ => h
  | n + 1, i, x, y, h, hs => by
    have := iter_rel R (n := n) (i := i + 1) (hs i x y (Nat.le_refl _) (by omega) h) (fun k x y h1 h2 => hs k x y (by omega) (by omega))
    rw [show i + 1 + n = i + (n + 1) by omega] at this
    exact this
theorem iter_inv {α : Type} {f : Nat → α → α} (R : Nat → α → Prop) {n i : Nat} {x : α} (h : R i x) (hs : ∀ k x, i ≤ k → k < i + n → R k x → R (k + 1) (f k x)) : R (i + n) (iter f n i x) :=
  iter_rel (g := fun _ (y : Unit) => y) (fun k x _ => R k x) (y := ()) h (fun k x _ h1 h2 h3 => hs k x h1 h2 h3)
theorem cntI_congr {p q : Nat → Bool} {n i : Nat} {x : Int32} (h : ∀ k, i ≤ k → k < i + n → p k = q k) : cntI p n i x = cntI q n i x :=
  iter_congr (fun k y h1 h2 => by rw [h k h1 h2])
theorem sumI_congr {p q : Nat → Bool} {f g : Nat → Int32} {n i : Nat} {x : Int32} (h : ∀ k, i ≤ k → k < i + n → p k = q k) (hf : ∀ k, i ≤ k → k < i + n → f k = g k) : sumI p f n i x = sumI q g n i x :=
  iter_congr (fun k y h1 h2 => by rw [h k h1 h2, hf k h1 h2])
theorem ffind_congr {p q : Nat → Bool} : ∀ {n i : Nat}, (∀ k, i ≤ k → k < i + n → p k = q k) → ffind p n i = ffind q n i
  | 0, _, _ => rfl
  | n + 1, i, h => by
    simp only [ffind]
    rw [h i (Nat.le_refl _) (by omega), ffind_congr (fun k h1 h2 => h k (by omega) (by omega))]
theorem bestB_congr {p q : Nat → Bool} {l m : Nat → Nat → Bool} {n i : Nat} {b : Option Nat} (hb : ∀ j, b = some j → j < i) (h : ∀ k, i ≤ k → k < i + n → p k = q k) (hl : ∀ k j, i ≤ k → k < i + n → j < k → l k j = m k j) : bestB p l n i b = bestB q m n i b := by
  have := iter_rel (f := bstep p l) (g := bstep q m) (fun k x y => x = y ∧ ∀ j, x = some j → j < k) (n := n) (i := i) (x := b) (y := b) ⟨rfl, hb⟩ (by
    rintro k x y h1 h2 ⟨rfl, h4⟩
    cases x with
    | none =>
      simp only [bstep, h k h1 h2]
      refine ⟨trivial, fun j hj => ?_⟩
      split at hj
      · obtain rfl := Option.some.inj hj; omega
      · cases hj
    | some j =>
      simp only [bstep, h k h1 h2, hl k j h1 h2 (h4 j rfl)]
      refine ⟨trivial, fun z hz => ?_⟩
      have := h4 j rfl
      split at hz
      · split at hz
        · obtain rfl := Option.some.inj hz; omega
        · obtain rfl := Option.some.inj hz; omega
      · obtain rfl := Option.some.inj hz; omega)
  exact this.1
theorem minF_best {p : Nat → Bool} {f : Nat → Int32} {n i : Nat} {S : Int32} (hS : ∀ k, i ≤ k → k < i + n → p k = true → f k < S) : (minF p f n i (none, S)).1 = bestB p (fun k j => decide (f k < f j)) n i none := by
  have := iter_rel (f := fun k s => if p k && decide (f k < s.2) then (some k, f k) else s) (g := bstep p (fun k j => decide (f k < f j))) (fun _ (s : Option Nat × Int32) b => s.1 = b ∧ s.2 = b.elim S f) (n := n) (i := i) (x := (none, S)) (y := none) ⟨rfl, rfl⟩ (by
    rintro k ⟨s1, s2⟩ b h1 h2 ⟨h3, h4⟩
    subst h3
    have h4 : s2 = s1.elim S f := h4
    subst h4
    cases s1 with
    | none =>
      by_cases hp : p k = true
      · simp [bstep, hp, hS k h1 h2 hp]
      · simp [bstep, hp]
    | some j =>
      by_cases hp : p k = true
      · by_cases hq : f k < f j
        · simp [bstep, hp, hq]
        · simp [bstep, hp, hq]
      · simp [bstep, hp])
  exact this.1
theorem maxF_best {p : Nat → Bool} {f : Nat → Int32} {n i : Nat} {S : Int32} (hS : ∀ k, i ≤ k → k < i + n → p k = true → S < f k) : (maxF p f n i (none, S)).1 = bestB p (fun k j => decide (f j < f k)) n i none := by
  have := iter_rel (f := fun k s => if p k && decide (s.2 < f k) then (some k, f k) else s) (g := bstep p (fun k j => decide (f j < f k))) (fun _ (s : Option Nat × Int32) b => s.1 = b ∧ s.2 = b.elim S f) (n := n) (i := i) (x := (none, S)) (y := none) ⟨rfl, rfl⟩ (by
    rintro k ⟨s1, s2⟩ b h1 h2 ⟨h3, h4⟩
    subst h3
    have h4 : s2 = s1.elim S f := h4
    subst h4
    cases s1 with
    | none =>
      by_cases hp : p k = true
      · simp [bstep, hp, hS k h1 h2 hp]
      · simp [bstep, hp]
    | some j =>
      by_cases hp : p k = true
      · by_cases hq : f j < f k
        · simp [bstep, hp, hq]
        · simp [bstep, hp, hq]
      · simp [bstep, hp])
  exact this.1

def OC (o : Nat → Nat → Int32) (K nt k : Nat) : Prop := ∃ p q a f : Nat, p ≤ 99 ∧ q < 4 ∧ 0 < a ∧ a ≤ 9 ∧ f ≤ nt ∧ o 4 k = nI p ∧ o 5 k = nI q ∧ o 6 k = nI a ∧ o 7 k = nI f ∧
  ((o 8 k = 0 ∧ o 10 k = -1 ∧ nt < f + 56) ∨ ∃ c, f ≤ c ∧ c ≤ nt ∧ c ≤ f + 56 ∧ o 9 k = nI c ∧ ((o 8 k = 1 ∧ ∃ j, j < K ∧ o 10 k = nI j) ∨ (o 8 k = 2 ∧ f + 14 ≤ c ∧ ∃ j, j < K ∧ o 10 k = nI j) ∨ (o 8 k = 3 ∧ o 10 k = -1)))
def OU (o : Nat → Nat → Int32) (N : Nat) : Prop := ∀ k k', k < N → k' < N → o 8 k = 0 → o 8 k' = 0 → o 4 k = o 4 k' → o 5 k = o 5 k' → k = k'
def OV (o : Nat → Nat → Int32) (N K C nt : Nat) : Prop := OI o N K C nt ∧ (∀ j, j < C → ∃ z, z ≤ 9 ∧ o 1 j = nI z) ∧ (∀ j, j < K → ∃ z, z ≤ 99 ∧ o 3 j = nI z) ∧ (∀ k, k < N → OC o K nt k) ∧ OU o N ∧ ∀ i, i = 1 ∨ i = 2 ∨ i = 3 → ∃ z, z ≤ 14 ∧ o 0 i = nI z
section OVF
variable {o : Nat → Nat → Int32} {N K C nt : Nat}
theorem OV.oi (h : OV o N K C nt) : OI o N K C nt := h.1
theorem OV.cl (h : OV o N K C nt) : ∀ j, j < C → ∃ z, z ≤ 9 ∧ o 1 j = nI z := h.2.1
theorem OV.oil (h : OV o N K C nt) : ∀ j, j < K → ∃ z, z ≤ 99 ∧ o 3 j = nI z := h.2.2.1
theorem OV.co (h : OV o N K C nt) : ∀ k, k < N → OC o K nt k := h.2.2.2.1
theorem OV.un (h : OV o N K C nt) : OU o N := h.2.2.2.2.1
theorem OV.lm (h : OV o N K C nt) : ∀ i, i = 1 ∨ i = 2 ∨ i = 3 → ∃ z, z ≤ 14 ∧ o 0 i = nI z := h.2.2.2.2.2
theorem OV.N24 (h : OV o N K C nt) : N ≤ 24 := h.1.2.1
theorem OV.K5 (h : OV o N K C nt) : K ≤ 5 := h.1.2.2.2.1
/-- the waiting one of a person and a sort -/
theorem find_wait (h : OV o N K C nt) {k : Nat} (hk : k < N) (h8 : o 8 k = 0) : findC o (o 4 k) (o 5 k) N = some k := by
  cases hf : findC o (o 4 k) (o 5 k) N with
  | some j =>
    obtain ⟨h1, h2, h3, h4⟩ := findC_lt hf
    rw [h.un j k h1 hk h2 h8 h3 h4]
  | none =>
    exfalso
    have key : ∀ (n i : Nat), ffind (fun q => decide (o 8 q = 0) && decide (o 4 q = o 4 k) && decide (o 5 q = o 5 k)) n i = none → i ≤ k → k < i + n → False := by
      intro n
      induction n with
      | zero => intro i _ h1 h2; omega
      | succ n ih =>
        intro i hn h1 h2
        simp only [ffind] at hn
        split at hn
        · cases hn
        · rename_i hp
          by_cases e : i = k
          · subst e
            apply hp
            simp [h8]
          · exact ih (i + 1) hn (by omega) (by omega)
    exact key N 0 hf (Nat.zero_le _) (by omega)
theorem wait0 (h : OV o N K C nt) {k : Nat} (hk : k < N) : ∃ z, z < 4 ∧ o 8 k = nI z := by
  obtain ⟨p, q, a, f, -, -, -, -, -, -, -, -, -, hs⟩ := h.co k hk
  rcases hs with ⟨e, -⟩ | ⟨c, -, -, -, -, ⟨e, -⟩ | ⟨e, -⟩ | ⟨e, -⟩⟩
  · exact ⟨0, by omega, e⟩
  · exact ⟨1, by omega, e⟩
  · exact ⟨2, by omega, e⟩
  · exact ⟨3, by omega, e⟩
theorem first_best (h : OV o N K C nt) : firstC o (o 0 0) N = bestB (fun k => decide (o 8 k = 0)) (fun k j => decide (o 7 k < o 7 j)) N 0 none := by
  unfold firstC
  refine minF_best (fun k _ hk _ => ?_)
  obtain ⟨p, q, a, f, -, -, -, -, hf, -, -, -, e7, -⟩ := h.co k (by omega)
  have hnt : nt < 2 ^ 18 := h.1.2.2.2.2.2.2.2.2.1
  rw [e7, show o 0 0 = nI nt from h.1.2.2.2.2.2.2.2.1, nI_1]
  exact nI_lt (by omega) (by omega)
theorem most_best (h : OV o N K C nt) : mostC o 15 N = bestB (fun k => decide (o 8 k = 0)) (fun k j => decide (o 6 j < o 6 k)) N 0 none := by
  unfold mostC
  rw [maxF_best]
  · refine bestB_congr (fun j hj => by cases hj) (fun k _ hk => ?_) (fun _ _ _ _ _ => rfl)
    obtain ⟨p, q, a, f, -, hq, -, -, -, -, e5, -⟩ := h.co k (by omega)
    rw [e5]
    have : ∀ q, q < 4 → decide (((15 : Int32) >>> (nI q &&& 31)) &&& 1 = 1) = true := by decide +kernel
    rw [this q hq, Bool.and_true]
  · intro k _ hk _
    obtain ⟨p, q, a, f, -, -, ha, ha9, -, -, -, e6, -⟩ := h.co k (by omega)
    rw [e6]
    exact nI_lt (a := 0) ha (by omega)
theorem dark_best (h : OV o N K C nt) : (minF (fun _ => true) (o 3) K 0 (none, 100)).1 = bestB (fun _ => true) (fun k j => decide (o 3 k < o 3 j)) K 0 none := by
  refine minF_best (fun k _ hk _ => ?_)
  obtain ⟨z, hz, e⟩ := h.oil k (by omega)
  rw [e]
  exact nI_lt (b := 100) (by omega) (by decide)
end OVF
theorem opt_ne {b : Option Nat} {z : Int32} (h : ∀ j, b = some j → j < 2 ^ 31) (hz : z < 0) (h1 : z ≠ -101) : ¬ b.elim (-101) nI = z := by
  cases b with
  | none => exact fun e => h1 e.symm
  | some j => exact nI_nneg (h j rfl) hz
section BK
variable {o : Nat → Nat → Int32} {N k : Nat}
theorem cnt_upd {fc : Nat → Int32} (I : Nat) (hI : I < 4) (e8 : o 8 k = nI I) (hk : k < N) (h : ∀ i, i < 4 → cntI (fun j => decide (o 8 j = nI i)) (N - k) k (fc i) = cntI (fun j => decide (o 8 j = nI i)) N 0 0) : ∀ i, i < 4 → cntI (fun j => decide (o 8 j = nI i)) (N - (k + 1)) (k + 1) (va_up fc I (fc I + 1) i) = cntI (fun j => decide (o 8 j = nI i)) N 0 0 := by
  intro i hi
  have h1 := h i hi
  rw [cntI_step hk, e8] at h1
  by_cases e : i = I
  · subst e
    rw [decide_eq_true rfl] at h1
    rw [show va_up fc i (fc i + 1) i = fc i + 1 from if_pos rfl]
    exact h1
  · rw [decide_eq_false (fun z => e ((nI_eq (by omega) (by omega)).mp z).symm)] at h1
    rw [show va_up fc I (fc I + 1) i = fc i from if_neg e]
    exact h1
theorem ans_no {K : Nat} {fa : Nat → Int32} (e8 : ¬ o 8 k = 1) (hk : k < N) (h : ∀ i, i < K → cntI (fun j => decide (o 8 j = 1) && decide (o 10 j = nI i)) (N - k) k (fa i) = cntI (fun j => decide (o 8 j = 1) && decide (o 10 j = nI i)) N 0 0) : ∀ i, i < K → cntI (fun j => decide (o 8 j = 1) && decide (o 10 j = nI i)) (N - (k + 1)) (k + 1) (fa i) = cntI (fun j => decide (o 8 j = 1) && decide (o 10 j = nI i)) N 0 0 := by
  intro i hi
  have h1 := h i hi
  rw [cntI_step hk, decide_eq_false e8] at h1
  exact h1
theorem ans_yes {K jj : Nat} {fa : Nat → Int32} (e8 : o 8 k = 1) (e10 : o 10 k = nI jj) (hjj : jj < K) (hK : K ≤ 5) (hk : k < N) (h : ∀ i, i < K → cntI (fun j => decide (o 8 j = 1) && decide (o 10 j = nI i)) (N - k) k (fa i) = cntI (fun j => decide (o 8 j = 1) && decide (o 10 j = nI i)) N 0 0) : ∀ i, i < K → cntI (fun j => decide (o 8 j = 1) && decide (o 10 j = nI i)) (N - (k + 1)) (k + 1) (va_up fa jj (fa jj + 1) i) = cntI (fun j => decide (o 8 j = 1) && decide (o 10 j = nI i)) N 0 0 := by
  intro i hi
  have h1 := h i hi
  rw [cntI_step hk, decide_eq_true e8, e10, Bool.true_and] at h1
  by_cases e : i = jj
  · subst e
    rw [decide_eq_true rfl] at h1
    rw [show va_up fa i (fa i + 1) i = fa i + 1 from if_pos rfl]
    exact h1
  · rw [decide_eq_false (fun z => e ((nI_eq (by omega) (by omega)).mp z).symm)] at h1
    rw [show va_up fa jj (fa jj + 1) i = fa i from if_neg e]
    exact h1
theorem sum_no {f : Nat → Int32} {x R : Int32} (e8 : ¬ o 8 k = 1) (hk : k < N) (h : sumI (fun j => decide (o 8 j = 1)) f (N - k) k x = R) : sumI (fun j => decide (o 8 j = 1)) f (N - (k + 1)) (k + 1) x = R := by
  rw [sumI_step hk, decide_eq_false e8] at h
  exact h
theorem sum_yes {f : Nat → Int32} {x z R : Int32} (e8 : o 8 k = 1) (ez : f k = z) (hk : k < N) (h : sumI (fun j => decide (o 8 j = 1)) f (N - k) k x = R) : sumI (fun j => decide (o 8 j = 1)) f (N - (k + 1)) (k + 1) (x + z) = R := by
  rw [sumI_step hk, decide_eq_true e8, ez] at h
  exact h
theorem best_no {p : Nat → Bool} {lt : Nat → Nat → Bool} {b R : Option Nat} (hp : p k = false) (hk : k < N) (h : bestB p lt (N - k) k b = R) : bestB p lt (N - (k + 1)) (k + 1) b = R := by
  rw [bestB_step hk] at h
  cases b <;> (simp only [bstep, hp] at h; exact h)
theorem best_new {p : Nat → Bool} {lt : Nat → Nat → Bool} {R : Option Nat} (hp : p k = true) (hk : k < N) (h : bestB p lt (N - k) k none = R) : bestB p lt (N - (k + 1)) (k + 1) (some k) = R := by
  rw [bestB_step hk] at h
  simp only [bstep, hp] at h; exact h
theorem best_beat {p : Nat → Bool} {lt : Nat → Nat → Bool} {j : Nat} {R : Option Nat} (hp : p k = true) (hl : lt k j = true) (hk : k < N) (h : bestB p lt (N - k) k (some j) = R) : bestB p lt (N - (k + 1)) (k + 1) (some k) = R := by
  rw [bestB_step hk] at h
  simp only [bstep, hp, hl] at h; exact h
theorem best_stay {p : Nat → Bool} {lt : Nat → Nat → Bool} {j : Nat} {R : Option Nat} (hp : p k = true) (hl : lt k j = false) (hk : k < N) (h : bestB p lt (N - k) k (some j) = R) : bestB p lt (N - (k + 1)) (k + 1) (some j) = R := by
  rw [bestB_step hk] at h
  simp only [bstep, hp, hl] at h; exact h
end BK
theorem dcmp_0 {x y : UInt64} {op : CmpOp} (e : x = y) (h : FP.Core.val64 x ≠ .nan) : Op.cmpValue (FP.dcmp x y) op = 0 := by
  subst e
  rw [show FP.dcmp x x = some .eq from FP.Core.dcmp_self h]; rfl
theorem fcmp_0 {x y : UInt32} {op : CmpOp} (e : x = y) (h : FP.Core.val32 x ≠ .nan) : Op.cmpValue (FP.fcmp x y) op = 0 := by
  subst e
  rw [show FP.fcmp x x = some .eq from FP.Core.fcmp_self h]; rfl
