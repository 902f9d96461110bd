/-! the whole window: what its offices keep; changes that go well -/
def KO (o : Nat → Nat → Int32) : Prop := ∃ N K C nt, nt ≤ 999 ∧ OV o N K C nt
def GW (O : Nat → Nat → Nat → Int32) (un nx : Nat) (f2 : Nat → Int32) : Prop := un ≤ 8 ∧ nx < 8 ∧ KO (O 0) ∧ (∀ i, i < un → KO (O (3 + (nx + 7 - i) % 8))) ∧ ∀ k, k < 2 → ¬ f2 k = 0 → KO (O (11 + k))
abbrev S3 : Type := (Nat → Nat → Nat → Int32) × Nat × Nat
section GWF
variable {O O' : Nat → Nat → Nat → Int32} {un nx : Nat} {f2 : Nat → Int32}
theorem GW.un8 (h : GW O un nx f2) : un ≤ 8 := h.1
theorem GW.nx8 (h : GW O un nx f2) : nx < 8 := h.2.1
theorem GW.same (h : GW O un nx f2) (e : ∀ i, i ≠ 1 → O' i = O i) : GW O' un nx f2 := by
  obtain ⟨h1, h2, h3, h4, h5⟩ := h
  refine ⟨h1, h2, by rw [e 0 (by decide)]; exact h3, fun i hi => ?_, fun k hk hf => ?_⟩
  · rw [e _ (by omega)]; exact h4 i hi
  · rw [e _ (by omega)]; exact h5 k hk hf
theorem GW.put (h : GW O un nx f2) {o : Nat → Nat → Int32} (ho : KO o) : GW (va_up O 0 o) un nx f2 := by
  obtain ⟨h1, h2, h3, h4, h5⟩ := h
  refine ⟨h1, h2, ho, fun i hi => ?_, fun k hk hf => ?_⟩
  · rw [show va_up O 0 o (3 + (nx + 7 - i) % 8) = O (3 + (nx + 7 - i) % 8) from if_neg (by omega)]; exact h4 i hi
  · rw [show va_up O 0 o (11 + k) = O (11 + k) from if_neg (by omega)]; exact h5 k hk hf
theorem GW.push (h : GW O un nx f2) : GW (va_up O (3 + nx) (O 0)) (if un = 8 then 8 else un + 1) ((nx + 1) % 8) f2 := by
  obtain ⟨h1, h2, h3, h4, h5⟩ := h
  refine ⟨by split <;> omega, Nat.mod_lt _ (by decide), ?_, fun i hi => ?_, fun k hk hf => ?_⟩
  · rw [show va_up O (3 + nx) (O 0) 0 = O 0 from if_neg (by omega)]; exact h3
  · by_cases e : i = 0
    · subst e
      rw [show ((nx + 1) % 8 + 7 - 0) % 8 = nx by omega, show va_up O (3 + nx) (O 0) (3 + nx) = O 0 from if_pos rfl]
      exact h3
    · have hi8 : i < 8 := by split at hi <;> omega
      rw [show ((nx + 1) % 8 + 7 - i) % 8 = (nx + 7 - (i - 1)) % 8 by omega, show va_up O (3 + nx) (O 0) (3 + (nx + 7 - (i - 1)) % 8) = O (3 + (nx + 7 - (i - 1)) % 8) from if_neg (by omega)]
      exact h4 (i - 1) (by split at hi <;> omega)
  · rw [show va_up O (3 + nx) (O 0) (11 + k) = O (11 + k) from if_neg (by omega)]; exact h5 k hk hf
theorem GW.pop (h : GW O un nx f2) (hu : 0 < un) : GW (va_up O 0 (O (3 + (nx + 7) % 8))) (un - 1) ((nx + 7) % 8) f2 := by
  obtain ⟨h1, h2, h3, h4, h5⟩ := h
  refine ⟨by omega, Nat.mod_lt _ (by decide), ?_, fun i hi => ?_, fun k hk hf => ?_⟩
  · have := h4 0 hu
    rw [Nat.sub_zero] at this
    exact this
  · rw [show ((nx + 7) % 8 + 7 - i) % 8 = (nx + 7 - (i + 1)) % 8 by omega, show va_up O 0 (O (3 + (nx + 7) % 8)) (3 + (nx + 7 - (i + 1)) % 8) = O (3 + (nx + 7 - (i + 1)) % 8) from if_neg (by omega)]
    exact h4 (i + 1) (by omega)
  · rw [show va_up O 0 (O (3 + (nx + 7) % 8)) (11 + k) = O (11 + k) from if_neg (by omega)]; exact h5 k hk hf
/-- a change: pushed, then another office stands -/
theorem GW.change (h : GW O un nx f2) {o : Nat → Nat → Int32} (ho : KO o) : GW (va_up (va_up O (3 + nx) (O 0)) 0 o) (if un = 8 then 8 else un + 1) ((nx + 1) % 8) f2 := h.push.put ho
theorem top_at (h : GW O un nx f2) (o : Nat → Nat → Int32) : va_up (va_up O (3 + nx) (O 0)) 0 o (3 + ((nx + 1) % 8 + 7) % 8) = O 0 := by
  have hn := h.nx8
  rw [show ((nx + 1) % 8 + 7) % 8 = nx by omega]
  rw [show va_up (va_up O (3 + nx) (O 0)) 0 o (3 + nx) = va_up O (3 + nx) (O 0) (3 + nx) from if_neg (by omega)]
  exact if_pos rfl
theorem un_pos (un : Nat) : 0 < (if un = 8 then 8 else un + 1) := by split <;> omega
end GWF
theorem met_ex {l : Launch} {y : MethodName} {ws : List Cond} {rm : Room} {P : Array Value → State → Prop} {D : va_G} {T : Nat → ClassId} {A : Nat → Prop} {w1 : va_W} {mc ms : Nat} {X : Int32} {S : Type} {px : Int32 → S → Prop} {wu : S → va_W} (u0 : S) (h : Met l y ws rm P (va_Qi (fun r9 (_ : Unit) => r9 = X) (fun _ t => QS D T A w1 t) A) mc ms A) (ew : w1 = wu u0) (hp : px X u0) : Met l y ws rm P (va_Qi px (fun u t => QS D T A (wu u) t) A) mc ms A := by
  refine MetFree.mono h (fun _ _ h => h) (fun _ _ _ _ _ h => h) (fun a st oc t _ q => ?_)
  obtain ⟨⟨⟨r, u, e, hr, hB⟩, hF⟩, hL⟩ := q
  have hr : r = X := hr
  subst hr
  subst ew
  exact ⟨⟨⟨r, u0, e, hp, hB⟩, hF⟩, hL⟩
