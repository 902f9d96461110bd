/-! a night, one office alone: all clerks, growing older, what it brings -/
theorem mask_bit (p : Nat → Bool) {q : Nat} (hq : q < 4) : decide (((maskI p 4 0 0) >>> (nI q &&& 31)) &&& 1 = 1) = p q := by
  have e : maskI p 4 0 0 = maskI (fun k => if k = 0 then p 0 else if k = 1 then p 1 else if k = 2 then p 2 else p 3) 4 0 0 := rfl
  rw [e]
  have hp : p q = (if q = 0 then p 0 else if q = 1 then p 1 else if q = 2 then p 2 else p 3) := by
    rcases (by omega : q = 0 ∨ q = 1 ∨ q = 2 ∨ q = 3) with rfl | rfl | rfl | rfl <;> rfl
  rw [hp]
  generalize p 0 = a
  generalize p 1 = b
  generalize p 2 = c
  generalize p 3 = d
  have key : ∀ a b c d : Bool, ∀ q, q < 4 → decide (((maskI (fun k => if k = 0 then a else if k = 1 then b else if k = 2 then c else d) 4 0 0) >>> (nI q &&& 31)) &&& 1 = 1) = (if q = 0 then a else if q = 1 then b else if q = 2 then c else d) := by decide +kernel
  exact key a b c d q hq
theorem minF_val {p : Nat → Bool} {f : Nat → Int32} : ∀ {n i : Nat} {s : Option Nat × Int32} {S : Int32} {j : Nat}, (s.2 ≤ S ∧ ∀ j, s.1 = some j → f j < S) → (minF p f n i s).1 = some j → f j < S
  | 0, _, s, S, j, h, e => h.2 j e
  | n + 1, i, s, S, j, h, e => by
    have e' : (minF p f n (i + 1) (if p i && decide (f i < s.2) then (some i, f i) else s)).1 = some j := e
    refine minF_val (n := n) (i := i + 1) ?_ e'
    split
    · rename_i hc
      have h1 : f i < s.2 := by
        cases hp : p i <;> rw [hp] at hc <;> simp at hc
        exact hc
      exact ⟨Int32.le_of_lt (Int32.lt_of_lt_of_le h1 h.1), fun j hj => by cases hj; exact Int32.lt_of_lt_of_le h1 h.1⟩
    · exact h
theorem old14 {nt fl : Nat} (h1 : fl ≤ nt) (h2 : nt < 2 ^ 18) (h : nI fl < nI nt - 14 + 1) : fl + 14 ≤ nt := by
  have e1 : (nI nt - 14).toInt = (nt : Int) - 14 := pk_sub_toInt (a := nt) (b := 14) (by omega) (by decide)
  rw [Int32.lt_iff_toInt_lt, nI_toInt (by omega), Int32.toInt_add, e1] at h
  have e2 : ((nt : Int) - 14 + (1 : Int32).toInt).bmod (2 ^ 32) = (nt : Int) - 13 := by
    rw [show (1 : Int32).toInt = 1 from rfl]
    rw [show (nt : Int) - 14 + 1 = (nt : Int) - 13 by omega]
    apply Int.bmod_eq_of_le <;> omega
  rw [e2] at h
  omega
theorem cost_nat (L z : Nat) (hL : L ≤ 14) (hz : z ≤ 9) : ∃ c, c ≤ 6 ∧ (6 : Int32) - nI L * (10 - nI z) / 10 / 3 = nI c := by
  rw [show (10 : Int32) - nI z = nI (10 - z) from pk_sub (a := 10) (by omega), pk_mul]
  have h1 : L * (10 - z) ≤ 14 * 10 := Nat.mul_le_mul hL (by omega)
  have h2 : nI (L * (10 - z)) / 10 = nI (L * (10 - z) / 10) := pk_div (d := 10) (by omega) (by decide) (by decide)
  have h3 : nI (L * (10 - z) / 10) / 3 = nI (L * (10 - z) / 10 / 3) := pk_div (d := 3) (by omega) (by decide) (by decide)
  rw [h2, h3]
  exact ⟨6 - L * (10 - z) / 10 / 3, by omega, pk_sub (a := 6) (by omega)⟩
section NT
variable {o o1 : Nat → Nat → Int32} {N K C nt c : Nat}
theorem OV.cost (h : OV o N K C nt) : ∃ c, c ≤ 6 ∧ costC C nt o = nI c := by
  obtain ⟨z, hz, e⟩ := h.cl (nt % C) (Nat.mod_lt _ h.oi.2.2.2.2.2.1)
  unfold costC visI
  rw [e]
  exact cost_nat _ _ (lightN_le _) hz
/-- a clerk's turn -/
theorem work_I (hOV : OV o N K C nt) (hc : c ≤ 6) {j : Nat} (hj : j < K) : ∀ (n : Nat) (x : Int32) (o1 : Nat → Nat → Int32), WI o o1 N K C nt c →
    WI o (workC N j (bitsC C nt o) (nI c) n x o1).2 N K C nt c ∧ hnd o (workC N j (bitsC C nt o) (nI c) n x o1).2 N j ≤ hnd o o1 N j + n ∧ ∀ i, i < 2 ^ 31 → i ≠ j → hnd o (workC N j (bitsC C nt o) (nI c) n x o1).2 N i = hnd o o1 N i := by
  intro n
  induction n with
  | zero => intro x o1 h; exact ⟨h, Nat.le_refl _, fun _ _ _ => rfl⟩
  | succ n ih =>
    intro x o1 h
    by_cases hl : o1 3 j < nI c
    · rw [workC_lt hl]; exact ⟨h, Nat.le_add_right _ _, fun _ _ _ => rfl⟩
    · have hnt : nt < 2 ^ 18 := hOV.oi.2.2.2.2.2.2.2.2.1
      have h00 : o1 0 0 = nI nt := (h.1.1 0 (by decide)).trans hOV.oi.2.2.2.2.2.2.2.1
      cases hm : mostC o1 (bitsC C nt o) N with
      | some q =>
        rw [workC_some hl hm]
        obtain ⟨hq, h8⟩ := mostC_lt hm
        have hwhy : ∀ s, o 5 q = nI s → s < 4 → justB s (o 0 1) (o 0 2) (o 0 3) nt (o 1 (nt % C)) = true := by
          intro s hs hs4
          rcases maxF_lt hm with g | ⟨_, _, g3⟩
          · cases g
          · simp only [Bool.and_eq_true] at g3
            have g4 := g3.2
            rw [h.1.2.2.2.2.1, hs] at g4
            have g5 := mask_bit (fun q => justB q (o 0 1) (o 0 2) (o 0 3) nt (o 1 (nt % C))) hs4
            rw [← g5]; exact g4
        obtain ⟨t1, t2, t3⟩ := h.take hOV (st := 1) hq hj h8 (Or.inl rfl) hl hc (Or.inl ⟨rfl, hwhy⟩)
        rw [show nI 1 = (1 : Int32) from rfl] at t1 t2 t3
        obtain ⟨i1, i2, i3⟩ := ih (x + 1) _ t1
        exact ⟨i1, by rw [t2] at i2; exact Nat.le_trans i2 (by omega), fun i hi hn => (i3 i hi hn).trans (t3 i hi hn)⟩
      | none =>
        cases hf : firstC o1 (o1 0 0 - 14) N with
        | some q =>
          rw [workC_old hl hm hf]
          obtain ⟨hq, h8⟩ := firstC_lt hf
          have hwhy : ∀ f, o 7 q = nI f → f ≤ nt → f + 14 ≤ nt := by
            intro f hf7 hfn
            have hf' : (minF (fun k => decide (o1 8 k = 0)) (o1 7) N 0 (none, o1 0 0 - 14 + 1)).1 = some q := hf
            have g := minF_val (s := (none, o1 0 0 - 14 + 1)) (S := o1 0 0 - 14 + 1) ⟨Int32.le_refl _, fun j hj => by cases hj⟩ hf'
            rw [h.1.2.2.2.2.2.2, hf7, h00] at g
            exact old14 hfn hnt g
          obtain ⟨t1, t2, t3⟩ := h.take hOV (st := 2) hq hj h8 (Or.inr rfl) hl hc (Or.inr ⟨rfl, hwhy⟩)
          rw [show nI 2 = (2 : Int32) from rfl] at t1 t2 t3
          obtain ⟨i1, i2, i3⟩ := ih x _ t1
          exact ⟨i1, by rw [t2] at i2; exact Nat.le_trans i2 (by omega), fun i hi hn => (i3 i hi hn).trans (t3 i hi hn)⟩
        | none => rw [workC_none hm hf]; exact ⟨h, Nat.le_add_right _ _, fun _ _ _ => rfl⟩
/-- all clerks' turns -/
theorem clerks_I (hOV : OV o N K C nt) (hc : c ≤ 6) (hcost : costC C nt o = nI c) : WI o (clerksNightC N K C nt o).2 N K C nt c ∧ ∀ j, j < K → ∀ S, o 2 j = nI S → S ≤ 9 → hnd o (clerksNightC N K C nt o).2 N j ≤ 1 + S / 3 := by
  unfold clerksNightC
  rw [hcost]
  have hK := hOV.K5
  have key := iter_inv (f := clerksC N (bitsC C nt o) (nI c)) (fun k (s : Int32 × (Nat → Nat → Int32)) => WI o s.2 N K C nt c ∧ (∀ j, j < k → j < K → ∀ S, o 2 j = nI S → S ≤ 9 → hnd o s.2 N j ≤ 1 + S / 3) ∧ ∀ j, k ≤ j → j < K → hnd o s.2 N j = 0) (n := K) (i := 0) (x := (0, o))
    ⟨WI.refl hOV, fun j hj => by omega, fun j _ hj => hnd_0 hOV j (by omega)⟩ (by
    rintro k ⟨x, o1⟩ - hk ⟨h1, h2, h3⟩
    have hkK : k < K := by omega
    have h1 : WI o o1 N K C nt c := h1
    have h2 : ∀ j, j < k → j < K → ∀ S, o 2 j = nI S → S ≤ 9 → hnd o o1 N j ≤ 1 + S / 3 := h2
    have h3 : ∀ j, k ≤ j → j < K → hnd o o1 N j = 0 := h3
    obtain ⟨i1, i2, i3⟩ := work_I hOV hc hkK (1 + o1 2 k / 3).toNatClampNeg 0 o1 h1
    refine ⟨i1, fun j hj hjK S hS hS9 => ?_, fun j hj hjK => ?_⟩
    · by_cases e : j = k
      · subst e
        have h0 : hnd o o1 N j = 0 := h3 j (Nat.le_refl _) hjK
        rw [h0] at i2
        refine Nat.le_trans i2 ?_
        show 0 + (1 + o1 2 j / 3).toNatClampNeg ≤ 1 + S / 3
        rw [h1.1.2.2.1, hS, show nI S / 3 = nI (S / 3) from pk_div (d := 3) (by omega) (by decide) (by decide), show (1 : Int32) + nI (S / 3) = nI (1 + S / 3) from nI_add 1 _, nI_clamp (by omega)]
        omega
      · show hnd o (workC N k (bitsC C nt o) (nI c) (1 + o1 2 k / 3).toNatClampNeg 0 o1).2 N j ≤ _
        rw [i3 j (by omega) e]; exact h2 j (by omega) hjK S hS hS9
    · show hnd o (workC N k (bitsC C nt o) (nI c) (1 + o1 2 k / 3).toNatClampNeg 0 o1).2 N j = 0
      rw [i3 j (by omega) (by omega)]; exact h3 j (by omega) hjK)
  rw [Nat.zero_add] at key
  exact ⟨key.1, fun j hj => key.2.1 j hj hj⟩
/-- growing older touches each by itself -/
theorem grow_ne {z : Int32} {i k : Nat} (h : k ≠ i) (o : Nat → Nat → Int32) (r : Nat) : (growC z i o) r k = o r k := by
  have u : ∀ (f : Nat → Nat → Int32) (a : Nat) (x : Int32), va_up f a (va_up (f a) i x) r k = f r k := by
    intro f a x
    unfold va_up
    split
    · rename_i e; subst e
      show (if k = i then x else f r k) = f r k
      rw [if_neg h]
    · rfl
  have hc : ∀ (f : Nat → Nat → Int32) (st nt ck : Int32), pileClose f i st nt ck r k = f r k := by
    intro f st nt ck
    unfold pileClose va_up
    by_cases e10 : r = 10
    · subst e10; rw [if_pos rfl, if_neg h]
    · rw [if_neg e10]
      by_cases e9 : r = 9
      · subst e9; rw [if_pos rfl, if_neg h]
      · rw [if_neg e9]
        by_cases e8 : r = 8
        · subst e8; rw [if_pos rfl, if_neg h]
        · rw [if_neg e8]
  unfold growC
  split
  · split
    · rw [hc]; split
      · exact u _ _ _
      · rfl
    · split
      · exact u _ _ _
      · rfl
  · rfl
theorem grow_past {z : Int32} {r k : Nat} : ∀ (n i : Nat) (o : Nat → Nat → Int32), k < i → (iter (growC z) n i o) r k = o r k
  | 0, _, _, _ => rfl
  | n + 1, i, o, h => by
    show (iter (growC z) n (i + 1) (growC z i o)) r k = _
    rw [grow_past n (i + 1) _ (by omega), grow_ne (by omega)]
theorem grow_col {z : Int32} {r k : Nat} {o o' : Nat → Nat → Int32} (h : ∀ r, o' r k = o r k) : (growC z k o') r k = (growC z k o) r k := by
  unfold growC
  rw [h 8, h 7, h 6]
  have cl : ∀ f f' : Nat → Nat → Int32, (∀ r, f' r k = f r k) → ∀ st nt ck, pileClose f' k st nt ck r k = pileClose f k st nt ck r k := by
    intro f f' hf st nt ck
    unfold pileClose va_up
    by_cases e10 : r = 10
    · rw [if_pos e10, if_pos e10, if_pos rfl, if_pos rfl]
    · rw [if_neg e10, if_neg e10]
      by_cases e9 : r = 9
      · rw [if_pos e9, if_pos e9, if_pos rfl, if_pos rfl]
      · rw [if_neg e9, if_neg e9]
        by_cases e8 : r = 8
        · rw [if_pos e8, if_pos e8, if_pos rfl, if_pos rfl]
        · rw [if_neg e8, if_neg e8]; exact hf r
  have up : ∀ x : Int32, ∀ r, va_up o' 6 (va_up (o' 6) k x) r k = va_up o 6 (va_up (o 6) k x) r k := by
    intro x r
    unfold va_up
    by_cases e : r = 6
    · rw [if_pos e, if_pos e, if_pos rfl, if_pos rfl]
    · rw [if_neg e, if_neg e]; exact h r
  split
  · split
    · refine cl _ _ (fun r => ?_) _ _ _
      split
      · exact up _ r
      · exact h r
    · split
      · exact up _ r
      · exact h r
  · exact h r
theorem grow_at {z : Int32} {r k : Nat} : ∀ (n i : Nat) (o : Nat → Nat → Int32), i ≤ k → k < i + n → (iter (growC z) n i o) r k = (growC z k o) r k
  | 0, i, o, h1, h2 => by omega
  | n + 1, i, o, h1, h2 => by
    show (iter (growC z) n (i + 1) (growC z i o)) r k = _
    by_cases e : i = k
    · rw [e, grow_past n (k + 1) _ (by omega)]
    · rw [grow_at n (i + 1) _ (by omega) (by omega)]
      exact grow_col (fun r => grow_ne (fun h => e h.symm) o r)
end NT
