/-! the first window's office keeps what an office keeps -/
set_option maxRecDepth 100000 in
theorem d0_sc : d0C 0 7 = 4 ∧ d0C 0 5 = 2 ∧ d0C 0 4 = 3 ∧ d0C 0 0 = 0 ∧ d0C 0 1 = 8 ∧ d0C 0 2 = 2 ∧ d0C 0 3 = 6 := by decide +kernel
set_option maxRecDepth 100000 in
theorem d0_cl : ∀ k, k < 3 → d0C 1 k = nI ([0, 3, 9].getD k 0) := by decide +kernel
set_option maxRecDepth 100000 in
theorem d0_ck : ∀ k, k < 2 → d0C 2 k = nI ([3, 7].getD k 0) ∧ d0C 3 k = nI ([20, 5].getD k 0) := by decide +kernel
set_option maxRecDepth 100000 in
theorem d0_co : ∀ k, k < 4 → d0C 4 k = nI ([4, 4, 9, 30].getD k 0) ∧ d0C 5 k = nI k ∧ d0C 6 k = nI ([5, 2, 6, 9].getD k 0) ∧ d0C 7 k = 0 ∧ d0C 8 k = 0 ∧ d0C 10 k = -1 := by decide +kernel
set_option maxRecDepth 100000 in
theorem g0_ok : g0C.2.2.2.1 = false := by decide +kernel
theorem d0_ov : OV d0C 4 2 3 0 := by
  obtain ⟨h7, h5, h4, h0, l1, l2, l3⟩ := d0_sc
  refine ⟨⟨h7, by decide, h5, by decide, h4, by decide, by decide, h0, by decide, fun j hj => ?_⟩, fun j hj => ?_, fun j hj => ?_, fun k hk => ?_, ?_, fun i hi => ?_⟩
  · exact ⟨_, by obtain rfl | rfl : j = 0 ∨ j = 1 := by omega
                 all_goals decide, (d0_ck j hj).1⟩
  · exact ⟨_, by obtain rfl | rfl | rfl : j = 0 ∨ j = 1 ∨ j = 2 := by omega
                 all_goals decide, d0_cl j hj⟩
  · exact ⟨_, by obtain rfl | rfl : j = 0 ∨ j = 1 := by omega
                 all_goals decide, (d0_ck j hj).2⟩
  · obtain ⟨e4, e5, e6, e7, e8, e10⟩ := d0_co k hk
    refine ⟨_, _, _, 0, ?_, hk, ?_, ?_, Nat.le_refl _, e4, e5, e6, e7, Or.inl ⟨e8, e10, by decide⟩⟩
    all_goals
      obtain rfl | rfl | rfl | rfl : k = 0 ∨ k = 1 ∨ k = 2 ∨ k = 3 := by omega
      all_goals decide
  · intro k k' hk hk' _ _ _ e5
    rw [(d0_co k hk).2.1, (d0_co k' hk').2.1] at e5
    exact (nI_eq (by omega) (by omega)).mp e5
  · rcases hi with rfl | rfl | rfl
    · exact ⟨8, by decide, l1⟩
    · exact ⟨2, by decide, l2⟩
    · exact ⟨6, by decide, l3⟩
theorem O0_0 : O0C 0 = d0C := va_up_at _ _ _
theorem gw_first : GW O0C 0 0 (fun _ => 0) := ⟨Nat.zero_le _, by decide, by rw [O0_0]; exact ⟨4, 2, 3, 0, by decide, d0_ov⟩, fun i hi => absurd hi (Nat.not_lt_zero i), fun k hk h => absurd rfl h⟩
theorem find_first : findC (O0C 0) 9 2 4 = some 2 := by
  have h := find_wait d0_ov (k := 2) (by decide) (d0_co 2 (by decide)).2.2.2.2.1
  rw [O0_0]
  rw [(d0_co 2 (by decide)).1, (d0_co 2 (by decide)).2.1] at h
  exact h
