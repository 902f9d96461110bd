/-! the two sides alike: all that is kept -/
def MT (o : Nat → Nat → Int32) (r : Nat → Int32) : Prop := ∃ N K C nt, NV o r N K C nt ∧ nt ≤ 999
theorem MT.eqr {o : Nat → Nat → Int32} {r r' : Nat → Int32} (h : MT o r) (e : EqR r r') : MT o r' := by
  obtain ⟨N, K, C, nt, h1, h2⟩ := h
  exact ⟨N, K, C, nt, h1.eqr e, h2⟩
def GH (O : Nat → Nat → Nat → Int32) (un nx : Nat) (u : Int32) (f : Nat → Int32) : Prop := u = nI un ∧ un ≤ 8 ∧ nx < 8 ∧ ∀ d, d < un → MT (O (3 + (nx + 7 - d) % 8)) (fun i => f (202 * (un - 1 - d) + i))
def GS (O : Nat → Nat → Nat → Int32) (f2 : Nat → Int32) (f t : Nat → Int32) : Prop := ∀ k, k < 2 → t k = f2 k ∧ (¬ f2 k = 0 → MT (O (11 + k)) (fun i => f (202 * k + i)))
def GB (ln : Nat) (f0 : Nat → Int32) (z : Int32) (f : Nat → Int32) : Prop := ln ≤ 600 ∧ z = nI ln ∧ ∀ k, k < ln → f k = f0 k ∧ ∃ b, b < 256 ∧ f0 k = nI b
def GE (g : CSt) (z : Int32) : Prop := (g.2.2.2.1 = true ∧ g.2.2.2.2 = z ∧ ∃ k, k < 2 ^ 31 ∧ z = nI k) ∨ (g.2.2.2.1 = false ∧ z = -1)
def GP (pl : Nat) (f1 : Nat → Int32) (z : Int32) (f : Nat → Int32) : Prop := pl ≤ 120 ∧ z = nI pl ∧ ∀ k, k < pl → f k = f1 k
def GI (O : Nat → Nat → Nat → Int32) (g : CSt) (ln un nx pl : Nat) (f0 f1 f2 : Nat → Int32) (y : Nat → Nat → Int32) : Prop :=
  MT (O 0) (y 1) ∧ GH O un nx (y 0 0) (y 4) ∧ GS O f2 (y 5) (y 6) ∧ GB ln f0 (y 0 1) (y 7) ∧ GE g (y 0 2) ∧ GP pl f1 (y 0 9) (y 8)
section GG
variable {O O1 : Nat → Nat → Nat → Int32} {g : CSt} {ln un nx pl : Nat} {f0 f1 f2 : Nat → Int32} {y : Nat → Nat → Int32}
theorem GI.thr (h : GI O g ln un nx pl f0 f1 f2 y) (v : Int32) : GI O g ln un nx pl f0 f1 f2 (yS y 3 v) := h
theorem GH.cong {u : Int32} {f : Nat → Int32} (h : GH O un nx u f) (e : ∀ j, 3 ≤ j → j < 11 → O1 j = O j) : GH O1 un nx u f := by
  obtain ⟨h1, h2, h3, h4⟩ := h
  exact ⟨h1, h2, h3, fun d hd => by rw [e _ (by omega) (by omega)]; exact h4 d hd⟩
theorem GS.cong {f t : Nat → Int32} (h : GS O f2 f t) (e : ∀ j, 11 ≤ j → j < 13 → O1 j = O j) : GS O1 f2 f t := fun k hk => ⟨(h k hk).1, fun g => by rw [e _ (by omega) (by omega)]; exact (h k hk).2 g⟩
theorem rLayS_at {beg pl : Nat} (hb : pl + 202 ≤ beg) : ∀ (n k : Nat) (f : Nat → Int32) (i : Nat), k + n ≤ 202 → iter (fun k f => va_up f (pl + k) (f (beg + k))) n k f i = if pl + k ≤ i ∧ i < pl + k + n then f (beg + (i - pl)) else f i
  | 0, k, f, i, _ => by
    rw [if_neg (by omega)]; rfl
  | n + 1, k, f, i, hn => by
    show iter (fun k f => va_up f (pl + k) (f (beg + k))) n (k + 1) (va_up f (pl + k) (f (beg + k))) i = _
    rw [rLayS_at hb n (k + 1) _ i (by omega)]
    by_cases h : i = pl + k
    · subst h
      rw [if_neg (by omega), if_pos (by omega), up1, if_pos rfl]
      congr 1; omega
    · by_cases h2 : pl + (k + 1) ≤ i ∧ i < pl + (k + 1) + n
      · rw [if_pos h2, if_pos (by omega), va_up_ne _ _ (by omega)]
      · rw [if_neg h2, if_neg (by omega), va_up_ne _ _ h]
theorem shift_at (f : Nat → Int32) : ∀ (n : Nat), n ≤ 7 → ∀ d i, i < 202 → iter (fun k f => rLayS (202 * k) (202 * (k - 1)) f) n 1 f (202 * d + i) = if d < n then f (202 * (d + 1) + i) else f (202 * d + i)
  | 0, _, d, i, _ => by rw [if_neg (by omega)]; rfl
  | n + 1, hn, d, i, hi => by
    rw [iter_last]
    have key : ∀ g : Nat → Int32, rLayS (202 * (1 + n)) (202 * (1 + n - 1)) g (202 * d + i) = if 202 * (1 + n - 1) + 0 ≤ 202 * d + i ∧ 202 * d + i < 202 * (1 + n - 1) + 0 + 202 then g (202 * (1 + n) + (202 * d + i - 202 * (1 + n - 1))) else g (202 * d + i) := fun g => rLayS_at (by omega) 202 0 g _ (by omega)
    rw [key]
    by_cases e : d = n
    · subst e
      rw [if_pos (by omega), if_pos (by omega)]
      rw [show 202 * (1 + d) + (202 * d + i - 202 * (1 + d - 1)) = 202 * (d + 1) + i by omega, shift_at f d (by omega) (d + 1) i hi, if_neg (by omega)]
    · rw [if_neg (by omega), shift_at f n (by omega) d i hi]
      by_cases e2 : d < n
      · rw [if_pos e2, if_pos (by omega)]
      · rw [if_neg e2, if_neg (by omega)]
theorem GH.push {r : Nat → Int32} {u : Int32} {f : Nat → Int32} (h : GH O un nx u f) (h0 : MT (O 0) r) (e : ∀ j, 3 ≤ j → j < 11 → O1 j = if j = 3 + nx then O 0 else O j) : GH O1 (if un = 8 then 8 else un + 1) ((nx + 1) % 8) (if u = 8 then 8 else u + 1) (if u = 8 then rLay r 0 (202 * 7) (iter (fun k f => rLayS (202 * k) (202 * (k - 1)) f) 7 1 f) else rLay r 0 (202 * u.toNatClampNeg) f) := by
  obtain ⟨h1, h2, h3, h4⟩ := h
  subst h1
  have hc : (nI un).toNatClampNeg = un := nI_clamp (by omega)
  have h8 : nI un = 8 ↔ un = 8 := by
    constructor
    · intro q
      have := congrArg Int32.toInt q
      rw [nI_toInt (by omega), show (8 : Int32).toInt = 8 from by decide] at this
      omega
    · intro q; rw [q]; rfl
  by_cases c : un = 8
  · rw [if_pos c, if_pos (h8.mpr c), if_pos (h8.mpr c)]
    refine ⟨rfl, Nat.le_refl _, by omega, fun d hd => ?_⟩
    rw [e _ (by omega) (by omega)]
    by_cases cd : d = 0
    · subst cd
      rw [if_pos (by omega)]
      refine h0.eqr (fun i hi => ?_)
      show rLay r 0 (202 * 7) _ (202 * (8 - 1 - 0) + i) = r i
      rw [rLay_in (by omega) (by omega), show 0 + (202 * (8 - 1 - 0) + i - 202 * 7) = i by omega]
    · rw [if_neg (by omega), show (nx + 1) % 8 + 7 - d = (nx + 1) % 8 + 7 - (d - 1) - 1 by omega]
      have := h4 (d - 1) (by omega)
      rw [show ((nx + 1) % 8 + 7 - (d - 1) - 1) % 8 = (nx + 7 - (d - 1)) % 8 by omega]
      refine this.eqr (fun i hi => ?_)
      show rLay r 0 (202 * 7) _ (202 * (8 - 1 - d) + i) = f (202 * (un - 1 - (d - 1)) + i)
      rw [rLay_out (by omega), shift_at f 7 (by omega) _ _ hi, if_pos (by omega)]
      congr 1; omega
  · rw [if_neg c, if_neg (fun q => c (h8.mp q)), if_neg (fun q => c (h8.mp q)), hc]
    refine ⟨nI_1 _, by omega, by omega, fun d hd => ?_⟩
    rw [e _ (by omega) (by omega)]
    by_cases cd : d = 0
    · subst cd
      rw [if_pos (by omega)]
      refine h0.eqr (fun i hi => ?_)
      show rLay r 0 (202 * un) f (202 * (un + 1 - 1 - 0) + i) = r i
      rw [rLay_in (by omega) (by omega)]
      congr 1; omega
    · rw [if_neg (by omega), show (nx + 1) % 8 + 7 - d = (nx + 1) % 8 + 7 - (d - 1) - 1 by omega]
      have := h4 (d - 1) (by omega)
      rw [show ((nx + 1) % 8 + 7 - (d - 1) - 1) % 8 = (nx + 7 - (d - 1)) % 8 by omega]
      refine this.eqr (fun i hi => ?_)
      show rLay r 0 (202 * un) f (202 * (un + 1 - 1 - d) + i) = f (202 * (un - 1 - (d - 1)) + i)
      rw [rLay_out (by omega)]
      congr 1; omega
theorem keep_rows (y : Nat → Nat → Int32) (r' : Nat → Int32) : (va_up (rKeep (yS y 3 0)) 1 r') 1 = r' ∧ (va_up (rKeep (yS y 3 0)) 1 r') 4 = keepRow y ∧ (∀ k, 5 ≤ k → (va_up (rKeep (yS y 3 0)) 1 r') k = y k) ∧ (va_up (rKeep (yS y 3 0)) 1 r') 0 0 = keepUn y ∧ (va_up (rKeep (yS y 3 0)) 1 r') 0 3 = 0 ∧ (∀ i, i ≠ 0 → i ≠ 3 → (va_up (rKeep (yS y 3 0)) 1 r') 0 i = y 0 i) := by
  refine ⟨rfl, rfl, fun k hk => ?_, rfl, rfl, fun i h1 h2 => ?_⟩
  · rw [va_up_ne _ _ (by omega)]
    unfold rKeep
    rw [yS_row _ _ _ _ (by omega), va_up_ne _ _ (by omega), yS_row _ _ _ _ (by omega)]
  · rw [va_up_ne _ _ (by omega)]
    unfold rKeep
    rw [yS_0, if_neg h1, va_up_ne _ _ (by omega), yS_0, if_neg h2]
/-- a change: the office kept, the new one in its place -/
theorem GI.push {o' : Nat → Nat → Int32} {r' : Nat → Int32} (h : GI O g ln un nx pl f0 f1 f2 y) (h' : MT o' r') : GI (va_up (va_up O (3 + nx) (O 0)) 0 o') g ln (if un = 8 then 8 else un + 1) ((nx + 1) % 8) pl f0 f1 f2 (va_up (rKeep (yS y 3 0)) 1 r') := by
  obtain ⟨h1, h2, h3, h4, h5, h6⟩ := h
  obtain ⟨k1, k4, kk, k0, k3, ki⟩ := keep_rows y r'
  have hx := h2.2.2.1
  refine ⟨?_, ?_, ?_, ?_, ?_, ?_⟩
  · rw [k1, va_up_at]; exact h'
  · rw [k0, k4]
    exact h2.push h1 (fun j hj1 hj2 => by rw [va_up_ne _ _ (by omega)]; rfl)
  · rw [kk 5 (by omega), kk 6 (by omega)]
    exact h3.cong (fun j hj1 hj2 => by rw [va_up_ne _ _ (by omega), va_up_ne _ _ (by omega)])
  · rw [ki 1 (by omega) (by omega), kk 7 (by omega)]; exact h4
  · rw [ki 2 (by omega) (by omega)]; exact h5
  · rw [ki 9 (by omega) (by omega), kk 8 (by omega)]; exact h6
theorem GI.undo (h : GI O g ln un nx pl f0 f1 f2 y) (hu : un ≠ 0) : GI (va_up O 0 (O (3 + (nx + 7) % 8))) g ln (un - 1) ((nx + 7) % 8) pl f0 f1 f2 (yS (yS (va_up y 1 (rLay (y 4) (202 * (un - 1)) 0 (y 1))) 3 0) 0 (nI (un - 1))) := by
  obtain ⟨h1, ⟨g1, g2, g3, g4⟩, h3, h4, h5, h6⟩ := h
  refine ⟨?_, ⟨rfl, by omega, by omega, fun d hd => ?_⟩, ?_, h4, h5, h6⟩
  · rw [va_up_at]
    have := g4 0 (by omega)
    refine this.eqr (fun i hi => ?_)
    show rLay (y 4) (202 * (un - 1)) 0 (y 1) i = y 4 (202 * (un - 1 - 0) + i)
    rw [rLay_in (by omega) (by omega)]
    congr 1
  · rw [va_up_ne _ _ (by omega), show ((nx + 7) % 8 + 7 - d) % 8 = (nx + 7 - (d + 1)) % 8 by omega]
    have := g4 (d + 1) (by omega)
    rw [show un - 1 - (d + 1) = un - 1 - 1 - d by omega] at this
    exact this
  · exact h3.cong (fun j hj1 hj2 => by rw [va_up_ne _ _ (by omega)])
theorem GI.spare {o' : Nat → Nat → Int32} {r' : Nat → Int32} (h : GI O g ln un nx pl f0 f1 f2 y) : GI (va_up O 1 o') g ln un nx pl f0 f1 f2 (yS (va_up y 3 r') 3 0) := by
  obtain ⟨h1, h2, h3, h4, h5, h6⟩ := h
  exact ⟨h1, h2.cong (fun j hj1 hj2 => by rw [va_up_ne _ _ (by omega)]), h3.cong (fun j hj1 hj2 => by rw [va_up_ne _ _ (by omega)]), h4, h5, h6⟩
theorem GI.save (h : GI O g ln un nx pl f0 f1 f2 y) {k : Nat} (hk : k < 2) : GI (va_up O (11 + k) (O 0)) g ln un nx pl f0 f1 (va_up f2 k 1) (yS (va_up (va_up y 5 (rLay (y 1) 0 (202 * k) (y 5))) 6 (va_up (y 6) k 1)) 3 0) := by
  obtain ⟨h1, h2, h3, h4, h5, h6⟩ := h
  refine ⟨?_, ?_, fun j hj => ?_, h4, h5, h6⟩
  · rw [va_up_ne _ _ (by omega)]; exact h1
  · exact h2.cong (fun j hj1 hj2 => by rw [va_up_ne _ _ (by omega)])
  · show va_up (y 6) k 1 j = va_up f2 k 1 j ∧ (¬ va_up f2 k 1 j = 0 → MT (va_up O (11 + k) (O 0) (11 + j)) (fun i => rLay (y 1) 0 (202 * k) (y 5) (202 * j + i)))
    by_cases e : j = k
    · subst e
      rw [va_up_at, va_up_at, va_up_at]
      refine ⟨rfl, fun _ => h1.eqr (fun i hi => ?_)⟩
      rw [rLay_in (by omega) (by omega)]
      congr 1; omega
    · rw [va_up_ne _ _ e, va_up_ne _ _ e, va_up_ne _ _ (by omega)]
      refine ⟨(h3 j hj).1, fun q => ((h3 j hj).2 q).eqr (fun i hi => ?_)⟩
      rw [rLay_out (by omega)]
theorem GI.slot (h : GI O g ln un nx pl f0 f1 f2 y) {k : Nat} (hk : k < 2) (ht : ¬ f2 k = 0) : MT (O (11 + k)) (rLay (y 5) (202 * k) 0 (y 1)) := by
  refine ((h.2.2.1 k hk).2 ht).eqr (fun i hi => ?_)
  rw [rLay_in (by omega) (by omega)]
  congr 1
end GG
