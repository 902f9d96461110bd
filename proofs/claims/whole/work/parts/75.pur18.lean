/-! the two sides alike at the beginning -/
def p0X : PSt := tokP (litF 0) 124 (0, 0, 0, 0, 0, false, -1)
def q0X : (Nat → Int32) × PSt := txR (litF 0) 124 (fun _ => 0) p0X
set_option maxRecDepth 100000 in
theorem q0X_w : q0X.2.2.2.2.2.2.1 = false := by decide +kernel
set_option maxRecDepth 100000 in
theorem q0X_r : ∀ i, i < 202 → rI9 i = q0X.1 i := by decide +kernel
theorem tx_lit : ∀ k, k < 124 → litF 0 k = txL 124 k := by
  have h : ∀ k, k < 124 → litF 0 k = litF 0 k &&& 255 := by decide +kernel
  intro k hk
  rw [txL_at, if_pos hk]
  exact h k hk
theorem yI0_0 {i : Nat} : yI0 0 i = if i = 2 then -1 else 0 := by
  unfold yI0 yZ
  rw [va_up_ne _ _ (by decide), yS_0]
theorem gi_0 : GI O0C g0C 0 0 0 0 (txL 124) (fun _ => 0) (fun _ => 0) yI0 := by
  have key := read_R (f := txL 124) (f' := litF 0) (L := 124) (o := zO) (g := gZ) (d := fun _ => 0) (p := p0X) (by decide) tx_lit (fun _ _ => rfl) (start_PO tx_lit gZ 0 0 0 0)
  have e1 : txR (litF 0) 124 (fun _ => 0) p0X = q0X := by unfold q0X; rfl
  have e2 : (rd4 (txL 124) 124 (zO, gZ)).2.1 = d0C := by unfold d0C; rfl
  have e3 : rd5 (txL 124) 124 (zO, gZ) = g0C := by unfold g0C; rfl
  rw [e1, e2, e3] at key
  rcases key with ⟨-, k2, -⟩ | ⟨⟨k1, -, -, -⟩, N, K, C, hv⟩
  · rw [q0X_w] at k2; cases k2
  · have hm : MT d0C rI9 := ⟨N, K, C, 0, hv.eqr q0X_r, by decide⟩
    have eO : O0C 0 = d0C := by unfold O0C; exact va_up_at _ _ _
    have ey : yI0 1 = rI9 := by unfold yI0; exact va_up_at _ _ _
    refine ⟨?_, ⟨?_, Nat.zero_le _, by decide, fun d hd => absurd hd (Nat.not_lt_zero _)⟩, fun k hk => ⟨?_, fun q => absurd rfl q⟩, ⟨Nat.zero_le _, ?_, fun k hk => absurd hk (Nat.not_lt_zero _)⟩, Or.inr ⟨k1, ?_⟩, ⟨Nat.zero_le _, ?_, fun k hk => absurd hk (Nat.not_lt_zero _)⟩⟩
    · rw [eO, ey]; exact hm
    · rw [yI0_0, if_neg (by decide)]; exact nI_0.symm
    · unfold yI0 yZ
      rw [va_up_ne _ _ (by decide), yS_row _ _ _ _ (by decide)]
    · rw [yI0_0, if_neg (by decide)]; exact nI_0.symm
    · rw [yI0_0, if_pos rfl]
    · rw [yI0_0, if_neg (by decide)]; exact nI_0.symm
