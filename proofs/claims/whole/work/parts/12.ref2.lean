set_option maxHeartbeats 4000000 in
set_option maxRecDepth 100000 in
theorem c_X10_layRow (l : Launch) (D : va_G) (T : Nat → ClassId) (b1 : Nat) (n1 : Nat) (r1 : Nat → Int32) (b2 : Nat) (n2 : Nat) (r2 : Nat → Int32) (beg : Nat) (pl : Nat) (h1 : beg + 202 ≤ n1) (h2 : pl + 202 ≤ n2) (h3 : n1 < 2 ^ 20) (h4 : n2 < 2 ^ 20) (sz : Nat) : Met l yX10_layRow wsX10_layRow ({ frames := 0, cells := 0, slots := 0, locals := 0 } : Room) (va_Pc [.ref (b1), .int (nI beg), .ref (b2), .int (nI pl)] (PS D T ([(b1, .inl (T 0, n1, .inl r1)), (b2, .inl (T 0, n2, .inl r2))]) sz)) (va_Qv (fun (_ : Unit) => True) (fun _ t => QS D T (va_A ([(b1, .inl (T 0, n1, .inl r1)), (b2, .inl (T 0, n2, .inl r2))]) sz) ([(b1, .inl (T 0, n1, .inl r1)), (b2, .inl (T 0, n2, .inl (rLay r1 beg pl r2)))]) t) (va_A ([(b1, .inl (T 0, n1, .inl r1)), (b2, .inl (T 0, n2, .inl r2))]) sz)) 0 0 (va_A ([(b1, .inl (T 0, n1, .inl r1)), (b2, .inl (T 0, n2, .inl r2))]) sz) := by
  refine metSv (cc := cX10_layRow) (maxL := 5) (by decide) rfl (Nat.le_of_ble_eq_true rfl) ?_
  intro p e s m args below meth c Q ls A hx hb hml hown hts hP hK hD hA hS hl hret
  have hown : s.vm.findClass RX10 = some m.cls := hown
  have hl : lv_has ls 5 [(0, .ref (b1)), (1, .int (nI beg)), (2, .ref (b2)), (3, .int (nI pl))] := hl
  refine lv_iconst (v := 0) hx hb dX10_layRow_0 (by decide) ?_
  refine lv_istore (lv' := [(4, .int (0)), (0, .ref (b1)), (1, .int (nI beg)), (2, .ref (b2)), (3, .int (nI pl))]) hx hb dX10_layRow_1 hl (by decide) rfl (fun ls hl => ?_)
  have L3 : ∀ (n9 : Nat) (k : Nat) (r3 : Nat → Int32), (202 - k) < n9 → (k ≤ 202) → (iter (fun k f => va_up f (pl + k) (r1 (beg + k))) (202 - k) k r3 = rLay r1 beg pl r2) → ∀ (H : Heap) (locs : List Loc) (ls : Array Slot), va_P D vwCl ([(b1, .inl (T 0, n1, .inl r1)), (b2, .inl (T 0, n2, .inl r3))]) H → va_D A ([(b1, .inl (T 0, n1, .inl r1)), (b2, .inl (T 0, n2, .inl r3))]) → va_S A s.heap H locs → lv_has ls 5 [(4, .int (nI k)), (0, .ref (b1)), (1, .int (nI beg)), (2, .ref (b2)), (3, .int (nI pl))] → W p l e ({ frames := 0, cells := 0, slots := 0, locals := 0 } : Room) s m args below meth c H locs 0 0 Q (F0 m 3 ls []) := by
    intro n9
    induction n9 with
    | zero => intro k r3 hm9; exact absurd hm9 (Nat.not_lt_zero _)
    | succ n9 ih =>
      intro k r3 hm9 hk9 hR H locs ls hP hD hS hl
      refine lv_iload hx hb dX10_layRow_3 (lv_at hl 0 rfl) ?_
      refine lv_sipush (v := 202) hx hb dX10_layRow_5 (by decide) ?_
      refine lv_icmp_ge (tgt := 29) hx hb dX10_layRow_8 (by decide) (fun c8 => ?_) (fun c8 => ?_)
      ·
        have c8 : 202 ≤ k := (nI_leI (a := 202) (b := k) (by omega) (by omega)).mp c8
        have hE : r3 = rLay r1 beg pl r2 := by rw [iter_done (by omega)] at hR; exact hR
        exact hret _ _ _ _ dX10_layRow_29 (by rw [← hE]; exact hP) (by rw [← hE]; exact hD) hS
      ·
        have c8 : ¬ 202 ≤ k := fun h9 => c8 ((nI_leI (a := 202) (b := k) (by omega) (by omega)).mpr h9)
        refine lv_aload_n hx hb dX10_layRow_11 rfl (lv_at hl 3 rfl) ?_
        refine lv_iload_n hx hb dX10_layRow_12 rfl (lv_at hl 4 rfl) ?_
        refine lv_iload hx hb dX10_layRow_13 (lv_at hl 0 rfl) ?_
        refine lv_iadd hx hb dX10_layRow_15 ?_
        refine endI (r := nI (pl + k)) (nI_add _ _) ?_
        refine lv_aload_n hx hb dX10_layRow_16 rfl (lv_at hl 1 rfl) ?_
        refine lv_iload_n hx hb dX10_layRow_17 rfl (lv_at hl 2 rfl) ?_
        refine lv_iload hx hb dX10_layRow_18 (lv_at hl 0 rfl) ?_
        refine lv_iadd hx hb dX10_layRow_20 ?_
        refine endI (r := nI (beg + k)) (nI_add _ _) ?_
        refine aldI hx hb hK hP 0 0 rfl rfl (beg + k) rfl (by omega) (by omega) dX10_layRow_21 ?_
        refine astI hx hb hK hP hD hS 1 0 rfl rfl (pl + k) rfl (by omega) (by omega) dX10_layRow_22 (fun H locs hP hD hS => ?_)
        have hP : va_P D vwCl ([(b1, .inl (T 0, n1, .inl r1)), (b2, .inl (T 0, n2, .inl (va_up r3 (pl + k) (r1 (beg + k)))))]) H := hP
        have hD : va_D A ([(b1, .inl (T 0, n1, .inl r1)), (b2, .inl (T 0, n2, .inl (va_up r3 (pl + k) (r1 (beg + k)))))]) := hD
        refine lv_iinc (v := nI (k + 1)) (lv' := [(4, .int (nI (k + 1))), (0, .ref (b1)), (1, .int (nI beg)), (2, .ref (b2)), (3, .int (nI pl))]) hx hb dX10_layRow_23 hl (k := 0) rfl (nI_1 _) (by decide) rfl (fun ls hl => ?_)
        refine lv_goto (tgt := 3) hx hb dX10_layRow_26 (by decide) ?_
        exact ih (k + 1) (va_up r3 (pl + k) (r1 (beg + k))) (by omega) (by omega) (by rw [iter_step (by omega)] at hR; exact hR) _ _ _ hP hD hS (lv_sub hl [0, 1, 2, 3, 4] rfl)
  exact L3 _ 0 r2 (Nat.lt_succ_self _) (by omega) (by first | rfl | (simp; done)) _ _ _ hP hD hS (lv_sub hl [0, 1, 2, 3, 4] rfl)

set_option maxHeartbeats 4000000 in
set_option maxRecDepth 100000 in
theorem c_X10_layRow_s (l : Launch) (D : va_G) (T : Nat → ClassId) (b : Nat) (n : Nat) (r : Nat → Int32) (beg : Nat) (pl : Nat) (h1 : beg + 202 ≤ n) (h2 : pl + 202 ≤ n) (h3 : n < 2 ^ 20) (sz : Nat) : Met l yX10_layRow wsX10_layRow ({ frames := 0, cells := 0, slots := 0, locals := 0 } : Room) (va_Pc [.ref (b), .int (nI beg), .ref (b), .int (nI pl)] (PS D T ([(b, .inl (T 0, n, .inl r))]) sz)) (va_Qv (fun (_ : Unit) => True) (fun _ t => QS D T (va_A ([(b, .inl (T 0, n, .inl r))]) sz) ([(b, .inl (T 0, n, .inl (rLayS beg pl r)))]) t) (va_A ([(b, .inl (T 0, n, .inl r))]) sz)) 0 0 (va_A ([(b, .inl (T 0, n, .inl r))]) sz) := by
  refine metSv (cc := cX10_layRow) (maxL := 5) (by decide) rfl (Nat.le_of_ble_eq_true rfl) ?_
  intro p e s m args below meth c Q ls A hx hb hml hown hts hP hK hD hA hS hl hret
  have hown : s.vm.findClass RX10 = some m.cls := hown
  have hl : lv_has ls 5 [(0, .ref (b)), (1, .int (nI beg)), (2, .ref (b)), (3, .int (nI pl))] := hl
  refine lv_iconst (v := 0) hx hb dX10_layRow_0 (by decide) ?_
  refine lv_istore (lv' := [(4, .int (0)), (0, .ref (b)), (1, .int (nI beg)), (2, .ref (b)), (3, .int (nI pl))]) hx hb dX10_layRow_1 hl (by decide) rfl (fun ls hl => ?_)
  have L3 : ∀ (n9 : Nat) (k : Nat) (r3 : Nat → Int32), (202 - k) < n9 → (k ≤ 202) → (iter (fun k f => va_up f (pl + k) (f (beg + k))) (202 - k) k r3 = rLayS beg pl r) → ∀ (H : Heap) (locs : List Loc) (ls : Array Slot), va_P D vwCl ([(b, .inl (T 0, n, .inl r3))]) H → va_D A ([(b, .inl (T 0, n, .inl r3))]) → va_S A s.heap H locs → lv_has ls 5 [(4, .int (nI k)), (0, .ref (b)), (1, .int (nI beg)), (2, .ref (b)), (3, .int (nI pl))] → W p l e ({ frames := 0, cells := 0, slots := 0, locals := 0 } : Room) s m args below meth c H locs 0 0 Q (F0 m 3 ls []) := by
    intro n9
    induction n9 with
    | zero => intro k r3 hm9; exact absurd hm9 (Nat.not_lt_zero _)
    | succ n9 ih =>
      intro k r3 hm9 hk9 hR H locs ls hP hD hS hl
      refine lv_iload hx hb dX10_layRow_3 (lv_at hl 0 rfl) ?_
      refine lv_sipush (v := 202) hx hb dX10_layRow_5 (by decide) ?_
      refine lv_icmp_ge (tgt := 29) hx hb dX10_layRow_8 (by decide) (fun c8 => ?_) (fun c8 => ?_)
      ·
        have c8 : 202 ≤ k := (nI_leI (a := 202) (b := k) (by omega) (by omega)).mp c8
        have hE : r3 = rLayS beg pl r := by rw [iter_done (by omega)] at hR; exact hR
        exact hret _ _ _ _ dX10_layRow_29 (by rw [← hE]; exact hP) (by rw [← hE]; exact hD) hS
      ·
        have c8 : ¬ 202 ≤ k := fun h9 => c8 ((nI_leI (a := 202) (b := k) (by omega) (by omega)).mpr h9)
        refine lv_aload_n hx hb dX10_layRow_11 rfl (lv_at hl 3 rfl) ?_
        refine lv_iload_n hx hb dX10_layRow_12 rfl (lv_at hl 4 rfl) ?_
        refine lv_iload hx hb dX10_layRow_13 (lv_at hl 0 rfl) ?_
        refine lv_iadd hx hb dX10_layRow_15 ?_
        refine endI (r := nI (pl + k)) (nI_add _ _) ?_
        refine lv_aload_n hx hb dX10_layRow_16 rfl (lv_at hl 1 rfl) ?_
        refine lv_iload_n hx hb dX10_layRow_17 rfl (lv_at hl 2 rfl) ?_
        refine lv_iload hx hb dX10_layRow_18 (lv_at hl 0 rfl) ?_
        refine lv_iadd hx hb dX10_layRow_20 ?_
        refine endI (r := nI (beg + k)) (nI_add _ _) ?_
        refine aldI hx hb hK hP 0 0 rfl rfl (beg + k) rfl (by omega) (by omega) dX10_layRow_21 ?_
        refine astI hx hb hK hP hD hS 0 0 rfl rfl (pl + k) rfl (by omega) (by omega) dX10_layRow_22 (fun H locs hP hD hS => ?_)
        have hP : va_P D vwCl ([(b, .inl (T 0, n, .inl (va_up r3 (pl + k) (r3 (beg + k)))))]) H := hP
        have hD : va_D A ([(b, .inl (T 0, n, .inl (va_up r3 (pl + k) (r3 (beg + k)))))]) := hD
        refine lv_iinc (v := nI (k + 1)) (lv' := [(4, .int (nI (k + 1))), (0, .ref (b)), (1, .int (nI beg)), (2, .ref (b)), (3, .int (nI pl))]) hx hb dX10_layRow_23 hl (k := 0) rfl (nI_1 _) (by decide) rfl (fun ls hl => ?_)
        refine lv_goto (tgt := 3) hx hb dX10_layRow_26 (by decide) ?_
        exact ih (k + 1) (va_up r3 (pl + k) (r3 (beg + k))) (by omega) (by omega) (by rw [iter_step (by omega)] at hR; exact hR) _ _ _ hP hD hS (lv_sub hl [0, 1, 2, 3, 4] rfl)
  exact L3 _ 0 r (Nat.lt_succ_self _) (by omega) (by first | rfl | (simp; done)) _ _ _ hP hD hS (lv_sub hl [0, 1, 2, 3, 4] rfl)

set_option maxHeartbeats 4000000 in
set_option maxRecDepth 100000 in
theorem c_X10_works (l : Launch) (D : va_G) (T : Nat → ClassId) (b : Nat) (r : Nat → Int32) (j : Nat) (N : Nat) (C : Nat) (nt : Nat) (hN : r 6 = nI N) (hN2 : N ≤ 24) (hC : r 4 = nI C) (hC1 : 0 < C) (hC2 : C ≤ 10) (hn : r 0 = nI nt) (hnt : nt < 2 ^ 20) (hSo : ∀ k, k < N → ∃ q, q < 4 ∧ r (34 + 7 * k + 1) = nI q) (hj : j < 5) (hS1 : ∃ S, S ≤ 9 ∧ r (19 + 3 * j) = nI S) (sz : Nat) : Met l yX10_works wsX10_works ({ frames := 6, cells := 0, slots := 0, locals := 128 } : Room) (va_Pc [.ref (b), .int (nI j)] (PS D T ([(b, .inl (T 0, 202, .inl r))]) sz)) (va_Qv (fun (_ : Unit) => True) (fun _ t => QS D T (va_A ([(b, .inl (T 0, 202, .inl r))]) sz) ([(b, .inl (T 0, 202, .inl (rWorks N C nt j (costR C nt r) (1 + r (19 + 3 * j) / 3).toNatClampNeg r)))]) t) (va_A ([(b, .inl (T 0, 202, .inl r))]) sz)) 0 0 (va_A ([(b, .inl (T 0, 202, .inl r))]) sz) := by
  refine metSv (cc := cX10_works) (maxL := 4) (by decide) rfl (Nat.le_of_ble_eq_true rfl) ?_
  intro p e s m args below meth c Q ls A hx hb hml hown hts hP hK hD hA hS hl hret
  have hown : s.vm.findClass RX10 = some m.cls := hown
  have hl : lv_has ls 4 [(0, .ref (b)), (1, .int (nI j))] := hl
  obtain ⟨S, hS2, hS3⟩ := hS1
  refine lv_aload_n hx hb dX10_works_0 rfl (lv_at hl 0 rfl) ?_
  refine lv_aload_n hx hb dX10_works_1 rfl (lv_at hl 0 rfl) ?_
  refine lv_iconst (v := 0) hx hb dX10_works_2 (by decide) ?_
  refine aldI hx hb hK hP 0 0 rfl rfl (0) rfl (by omega) (by decide) dX10_works_3 ?_
  refine endI (r := nI nt) (hn) ?_
  refine rdS (As := [.ref (b), .int (nI nt)]) (rest := []) ⟨hx, hb, hml, hown, hts⟩ (c_X10_costOn l D T b r nt C hC hC1 hC2 (by omega)) (va_cwS 2 hts gX10_works_X10_costOn rfl rfl rfl (by decide +kernel) ⟨Nat.le_of_ble_eq_true rfl, Nat.le_of_ble_eq_true rfl⟩) hK hP rfl hl.1 rfl (Nat.le_of_ble_eq_true rfl) ⟨Nat.zero_le _, Nat.zero_le _⟩ dX10_works_4 ?_
  refine lv_istore_n (lv' := [(2, .int (6 - visI nt (r (9 + nt % C)) / 3)), (0, .ref (b)), (1, .int (nI j))]) hx hb dX10_works_7 rfl hl (by decide) rfl (fun ls hl => ?_)
  refine lv_aload_n hx hb dX10_works_8 rfl (lv_at hl 1 rfl) ?_
  refine lv_iload_n hx hb dX10_works_9 rfl (lv_at hl 2 rfl) ?_
  refine rdS (As := [.ref (b), .int (nI j)]) (rest := []) ⟨hx, hb, hml, hown, hts⟩ (c_X10_mostBy l D T b r j (by first | omega | assumption | decide)) (va_cwS 2 hts gX10_works_X10_mostBy rfl rfl rfl (by decide +kernel) ⟨Nat.le_of_ble_eq_true rfl, Nat.le_of_ble_eq_true rfl⟩) hK hP rfl hl.1 rfl (Nat.le_of_ble_eq_true rfl) ⟨Nat.zero_le _, Nat.zero_le _⟩ dX10_works_10 ?_
  refine endI (r := nI (1 + S / 3)) (by rw [hS3, show nI S / 3 = nI (S / 3) from pk_div (by omega) (by decide) (by decide)]; exact nI_add 1 _) ?_
  refine lv_istore_n (lv' := [(3, .int (nI (1 + S / 3))), (2, .int (6 - visI nt (r (9 + nt % C)) / 3)), (0, .ref (b)), (1, .int (nI j))]) hx hb dX10_works_13 rfl hl (by decide) rfl (fun ls hl => ?_)
  have L14 : ∀ (n9 : Nat) (k : Nat) (r1 : Nat → Int32), k < n9 → (k ≤ 10) → (rWorks N C nt j (costR C nt r) k r1 = rWorks N C nt j (costR C nt r) (1 + r (19 + 3 * j) / 3).toNatClampNeg r) → (KR r r1) → ∀ (H : Heap) (locs : List Loc) (ls : Array Slot), va_P D vwCl ([(b, .inl (T 0, 202, .inl r1))]) H → va_D A ([(b, .inl (T 0, 202, .inl r1))]) → va_S A s.heap H locs → lv_has ls 4 [(3, .int (nI k)), (2, .int (6 - visI nt (r (9 + nt % C)) / 3)), (0, .ref (b)), (1, .int (nI j))] → W p l e ({ frames := 6, cells := 0, slots := 0, locals := 128 } : Room) s m args below meth c H locs 0 0 Q (F0 m 14 ls []) := by
    intro n9
    induction n9 with
    | zero => intro k r1 hm9; exact absurd hm9 (Nat.not_lt_zero _)
    | succ n9 ih =>
      intro k r1 hm9 hk9 hR hKR H locs ls hP hD hS hl
      have hN1 : r1 6 = nI N := (hKR.1 6 (by omega)).trans hN
      have hC0 : r1 4 = nI C := (hKR.1 4 (by omega)).trans hC
      have hn1 : r1 0 = nI nt := (hKR.1 0 (by omega)).trans hn
      have hSo1 : ∀ k, k < N → ∃ q, q < 4 ∧ r1 (34 + 7 * k + 1) = nI q := fun k hk => by obtain ⟨q, g1, g2⟩ := hSo k hk; exact ⟨q, g1, (hKR.2.2.2 k).2.1.trans g2⟩
      refine lv_iload_n hx hb dX10_works_14 rfl (lv_at hl 0 rfl) ?_
      refine lv_if_le (tgt := 61) hx hb dX10_works_15 (by decide) (fun c15 => ?_) (fun c15 => ?_)
      ·
        have c15 : k ≤ 0 := (nI_leI (a := k) (b := 0) (by omega) (by omega)).mp c15
        have hE : r1 = rWorks N C nt j (costR C nt r) (1 + r (19 + 3 * j) / 3).toNatClampNeg r := by first | (rw [show k = 0 from by omega] at hR; exact hR) | (rw [rWorks_lt (cost := costR C nt r) c24] at hR; exact hR) | (rw [rWorks_f c32] at hR; rw [rHandles_f c32]; exact hR)
        exact hret _ _ _ _ dX10_works_61 (by rw [← hE]; exact hP) (by rw [← hE]; exact hD) hS
      ·
        have c15 : ¬ k ≤ 0 := fun h9 => c15 ((nI_leI (a := k) (b := 0) (by omega) (by omega)).mpr h9)
        obtain ⟨k, rfl⟩ : ∃ n, k = n + 1 := ⟨k - 1, by omega⟩
        have hl : lv_has ls 4 [(3, .int (nI (k + 1))), (2, .int (6 - visI nt (r (9 + nt % C)) / 3)), (0, .ref (b)), (1, .int (nI j))] := hl
        refine lv_aload_n hx hb dX10_works_18 rfl (lv_at hl 2 rfl) ?_
        refine lv_iload_n hx hb dX10_works_19 rfl (lv_at hl 3 rfl) ?_
        refine lv_iload_n hx hb dX10_works_20 rfl (lv_at hl 1 rfl) ?_
        refine rdS (As := [.ref (b), .int (nI j), .int (6 - visI nt (r (9 + nt % C)) / 3)]) (rest := []) ⟨hx, hb, hml, hown, hts⟩ (c_X10_hasOil l D T b r1 j (6 - visI nt (r (9 + nt % C)) / 3) (by first | omega | assumption | decide)) (va_cwS 3 hts gX10_works_X10_hasOil rfl rfl rfl (by decide +kernel) ⟨Nat.le_of_ble_eq_true rfl, Nat.le_of_ble_eq_true rfl⟩) hK hP rfl hl.1 rfl (Nat.le_of_ble_eq_true rfl) ⟨Nat.zero_le _, Nat.zero_le _⟩ dX10_works_21 ?_
        refine lv_if_eq (tgt := 61) hx hb dX10_works_24 (by decide) (fun c24 => ?_) (fun c24 => ?_)
        ·
          have c24 := bI_0.mp c24
          have c24 := Int32.not_le.mp (of_decide_eq_false c24)
          have hE : r1 = rWorks N C nt j (costR C nt r) (1 + r (19 + 3 * j) / 3).toNatClampNeg r := by first | (rw [show k = 0 from by omega] at hR; exact hR) | (rw [rWorks_lt (cost := costR C nt r) c24] at hR; exact hR) | (rw [rWorks_f c32] at hR; rw [rHandles_f c32]; exact hR)
          exact hret _ _ _ _ dX10_works_61 (by rw [← hE]; exact hP) (by rw [← hE]; exact hD) hS
        ·
          have c24 := bI_n0.mp c24
          have c24 := Int32.not_lt.mpr (of_decide_eq_true c24)
          refine lv_aload_n hx hb dX10_works_27 rfl (lv_at hl 2 rfl) ?_
          refine lv_iload_n hx hb dX10_works_28 rfl (lv_at hl 3 rfl) ?_
          refine wrSi (As := [.ref (b), .int (nI j)]) (rest := []) ⟨hx, hb, hml, hown, hts⟩ (c_X10_handles l D T b r1 j N C nt hN1 hN2 hC0 hC1 hC2 hn1 hnt hSo1 hj _) (va_cwS 2 hts gX10_works_X10_handles rfl rfl rfl (by decide +kernel) ⟨Nat.le_of_ble_eq_true rfl, Nat.le_of_ble_eq_true rfl⟩) (Foc.rfl _ _) hK hP hD hS hA rfl hl.1 rfl (Nat.le_of_ble_eq_true rfl) ⟨Nat.zero_le _, Nat.zero_le _⟩ dX10_works_29 (fun H locs hP hD hS => ?_)
          have hP : va_P D vwCl ([(b, .inl (T 0, 202, .inl ((rHandles N C nt r1 j).2)))]) H := hP
          have hD : va_D A ([(b, .inl (T 0, 202, .inl ((rHandles N C nt r1 j).2)))]) := hD
          refine lv_if_ne (tgt := 36) hx hb dX10_works_32 (by decide) (fun c32 => ?_) (fun c32 => ?_)
          ·
            have c32 := bI_n0.mp c32
            refine lv_aload_n hx hb dX10_works_36 rfl (lv_at hl 2 rfl) ?_
            refine lv_iload_n hx hb dX10_works_37 rfl (lv_at hl 3 rfl) ?_
            refine lv_iconst (v := 1) hx hb dX10_works_38 (by decide) ?_
            refine rdT (As := [.int (nI j), .int (1)]) (rest := [.ref (b)]) ⟨hx, hb, hml, hown, hts⟩ (c_X10_clerkAt l D T j 1 ) (va_cwS 2 hts gX10_works_X10_clerkAt rfl rfl rfl (by decide +kernel) ⟨Nat.le_of_ble_eq_true rfl, Nat.le_of_ble_eq_true rfl⟩) rfl hl.1 rfl (Nat.le_of_ble_eq_true rfl) ⟨Nat.zero_le _, Nat.zero_le _⟩ dX10_works_39 ?_
            refine lv_dup2_11 hx hb dX10_works_42 rfl rfl ?_
            refine aldI hx hb hK hP 0 0 rfl rfl (19 + 3 * j + 1) rfl (by omega) (by decide) dX10_works_43 ?_
            refine lv_iload_n hx hb dX10_works_44 rfl (lv_at hl 1 rfl) ?_
            refine lv_isub hx hb dX10_works_45 ?_
            refine astI hx hb hK hP hD hS 0 0 rfl rfl (19 + 3 * j + 1) rfl (by omega) (by decide) dX10_works_46 (fun H locs hP hD hS => ?_)
            have hP : va_P D vwCl ([(b, .inl (T 0, 202, .inl (va_up ((rHandles N C nt r1 j).2) (19 + 3 * j + 1) ((((rHandles N C nt r1 j).2) (19 + 3 * j + 1)) - (6 - visI nt (r (9 + nt % C)) / 3)))))]) H := hP
            have hD : va_D A ([(b, .inl (T 0, 202, .inl (va_up ((rHandles N C nt r1 j).2) (19 + 3 * j + 1) ((((rHandles N C nt r1 j).2) (19 + 3 * j + 1)) - (6 - visI nt (r (9 + nt % C)) / 3)))))]) := hD
            refine lv_aload_n hx hb dX10_works_47 rfl (lv_at hl 2 rfl) ?_
            refine lv_bipush (v := 7) hx hb dX10_works_48 (by decide) ?_
            refine lv_dup2_11 hx hb dX10_works_50 rfl rfl ?_
            refine aldI hx hb hK hP 0 0 rfl rfl (7) rfl (by omega) (by decide) dX10_works_51 ?_
            refine lv_iload_n hx hb dX10_works_52 rfl (lv_at hl 1 rfl) ?_
            refine lv_iadd hx hb dX10_works_53 ?_
            refine astI hx hb hK hP hD hS 0 0 rfl rfl (7) rfl (by omega) (by decide) dX10_works_54 (fun H locs hP hD hS => ?_)
            have hP : va_P D vwCl ([(b, .inl (T 0, 202, .inl (va_up (va_up ((rHandles N C nt r1 j).2) (19 + 3 * j + 1) ((((rHandles N C nt r1 j).2) (19 + 3 * j + 1)) - (6 - visI nt (r (9 + nt % C)) / 3))) 7 (((va_up ((rHandles N C nt r1 j).2) (19 + 3 * j + 1) ((((rHandles N C nt r1 j).2) (19 + 3 * j + 1)) - (6 - visI nt (r (9 + nt % C)) / 3))) 7) + (6 - visI nt (r (9 + nt % C)) / 3)))))]) H := hP
            have hD : va_D A ([(b, .inl (T 0, 202, .inl (va_up (va_up ((rHandles N C nt r1 j).2) (19 + 3 * j + 1) ((((rHandles N C nt r1 j).2) (19 + 3 * j + 1)) - (6 - visI nt (r (9 + nt % C)) / 3))) 7 (((va_up ((rHandles N C nt r1 j).2) (19 + 3 * j + 1) ((((rHandles N C nt r1 j).2) (19 + 3 * j + 1)) - (6 - visI nt (r (9 + nt % C)) / 3))) 7) + (6 - visI nt (r (9 + nt % C)) / 3)))))]) := hD
            refine lv_iinc (v := nI k) (lv' := [(3, .int (nI k)), (2, .int (6 - visI nt (r (9 + nt % C)) / 3)), (0, .ref (b)), (1, .int (nI j))]) hx hb dX10_works_55 hl (k := 0) rfl (pk_m1 _) (by decide) rfl (fun ls hl => ?_)
            refine lv_goto (tgt := 14) hx hb dX10_works_58 (by decide) ?_
            exact ih k (va_up (va_up ((rHandles N C nt r1 j).2) (19 + 3 * j + 1) ((((rHandles N C nt r1 j).2) (19 + 3 * j + 1)) - (6 - visI nt (r (9 + nt % C)) / 3))) 7 (((va_up ((rHandles N C nt r1 j).2) (19 + 3 * j + 1) ((((rHandles N C nt r1 j).2) (19 + 3 * j + 1)) - (6 - visI nt (r (9 + nt % C)) / 3))) 7) + (6 - visI nt (r (9 + nt % C)) / 3))) (by omega) (by omega) (by rw [rWorks_t (cost := costR C nt r) c24 c32] at hR; exact hR) (by exact (hKR.handles hj).burn hj) _ _ _ hP hD hS (lv_sub hl [0, 1, 2, 3] rfl)
          ·
            have c32 := bI_0.mp c32
            have hE : (rHandles N C nt r1 j).2 = rWorks N C nt j (costR C nt r) (1 + r (19 + 3 * j) / 3).toNatClampNeg r := by first | (rw [show k = 0 from by omega] at hR; exact hR) | (rw [rWorks_lt (cost := costR C nt r) c24] at hR; exact hR) | (rw [rWorks_f c32] at hR; rw [rHandles_f c32]; exact hR)
            exact hret _ _ _ _ dX10_works_35 (by rw [← hE]; exact hP) (by rw [← hE]; exact hD) hS
  exact L14 _ (1 + S / 3) r (Nat.lt_succ_self _) (by omega) (by rw [show (1 + r (19 + 3 * j) / 3).toNatClampNeg = 1 + S / 3 from by rw [hS3, show nI S / 3 = nI (S / 3) from pk_div (by omega) (by decide) (by decide)]; exact (congrArg _ (nI_add 1 _)).trans (nI_clamp (by omega))]) (by exact KR.rfl) _ _ _ hP hD hS (lv_sub hl [0, 1, 2, 3] rfl)

set_option maxHeartbeats 4000000 in
set_option maxRecDepth 100000 in
theorem c_X10_grows (l : Launch) (D : va_G) (T : Nat → ClassId) (b : Nat) (r : Nat → Int32) (k : Nat) (hj : k < 24) (sz : Nat) : Met l yX10_grows wsX10_grows ({ frames := 3, cells := 0, slots := 0, locals := 63 } : Room) (va_Pc [.ref (b), .int (nI k)] (PS D T ([(b, .inl (T 0, 202, .inl r))]) sz)) (va_Qv (fun (_ : Unit) => True) (fun _ t => QS D T (va_A ([(b, .inl (T 0, 202, .inl r))]) sz) ([(b, .inl (T 0, 202, .inl (rGrow k r)))]) t) (va_A ([(b, .inl (T 0, 202, .inl r))]) sz)) 0 0 (va_A ([(b, .inl (T 0, 202, .inl r))]) sz) := by
  refine metSv (cc := cX10_grows) (maxL := 4) (by decide) rfl (Nat.le_of_ble_eq_true rfl) ?_
  intro p e s m args below meth c Q ls A hx hb hml hown hts hP hK hD hA hS hl hret
  have hown : s.vm.findClass RX10 = some m.cls := hown
  have hl : lv_has ls 4 [(0, .ref (b)), (1, .int (nI k))] := hl
  refine lv_aload_n hx hb dX10_grows_0 rfl (lv_at hl 0 rfl) ?_
  refine lv_iload_n hx hb dX10_grows_1 rfl (lv_at hl 1 rfl) ?_
  refine rdS (As := [.ref (b), .int (nI k)]) (rest := []) ⟨hx, hb, hml, hown, hts⟩ (c_X10_ageOf l D T b r k (by first | omega | assumption | decide)) (va_cwS 2 hts gX10_grows_X10_ageOf rfl rfl rfl (by decide +kernel) ⟨Nat.le_of_ble_eq_true rfl, Nat.le_of_ble_eq_true rfl⟩) hK hP rfl hl.1 rfl (Nat.le_of_ble_eq_true rfl) ⟨Nat.zero_le _, Nat.zero_le _⟩ dX10_grows_2 ?_
  refine lv_istore_n (lv' := [(2, .int (r 0 - r (34 + 7 * k + 3))), (0, .ref (b)), (1, .int (nI k))]) hx hb dX10_grows_5 rfl hl (by decide) rfl (fun ls hl => ?_)
  refine lv_iload_n hx hb dX10_grows_6 rfl (lv_at hl 2 rfl) ?_
  refine lv_iconst (v := 2) hx hb dX10_grows_7 (by decide) ?_
  refine rdT (As := [.int (nI k), .int (2)]) (rest := []) ⟨hx, hb, hml, hown, hts⟩ (c_X10_complaintAt l D T k 2 ) (va_cwS 2 hts gX10_grows_X10_complaintAt rfl rfl rfl (by decide +kernel) ⟨Nat.le_of_ble_eq_true rfl, Nat.le_of_ble_eq_true rfl⟩) rfl hl.1 rfl (Nat.le_of_ble_eq_true rfl) ⟨Nat.zero_le _, Nat.zero_le _⟩ dX10_grows_8 ?_
  refine lv_istore_n (lv' := [(3, .int (nI (34 + 7 * k + 2))), (2, .int (r 0 - r (34 + 7 * k + 3))), (0, .ref (b)), (1, .int (nI k))]) hx hb dX10_grows_11 rfl hl (by decide) rfl (fun ls hl => ?_)
  refine lv_iload_n hx hb dX10_grows_12 rfl (lv_at hl 1 rfl) ?_
  refine lv_bipush (v := 7) hx hb dX10_grows_13 (by decide) ?_
  refine lv_irem hx hb dX10_grows_15 (by decide) ?_
  refine lv_if_ne (tgt := 32) hx hb dX10_grows_16 (by decide) (fun c16 => ?_) (fun c16 => ?_)
  ·
    refine lv_iload_n hx hb dX10_grows_32 rfl (lv_at hl 1 rfl) ?_
    refine rdT (As := [.int (r 0 - r (34 + 7 * k + 3))]) (rest := []) ⟨hx, hb, hml, hown, hts⟩ (c_X10_isTooOld l D T (r 0 - r (34 + 7 * k + 3)) ) (va_cwS 1 hts gX10_grows_X10_isTooOld rfl rfl rfl (by decide +kernel) ⟨Nat.le_of_ble_eq_true rfl, Nat.le_of_ble_eq_true rfl⟩) rfl hl.1 rfl (Nat.le_of_ble_eq_true rfl) ⟨Nat.zero_le _, Nat.zero_le _⟩ dX10_grows_33 ?_
    refine lv_if_eq (tgt := 46) hx hb dX10_grows_36 (by decide) (fun c36 => ?_) (fun c36 => ?_)
    ·
      have c36 := bI_0.mp c36
      have c36 := of_decide_eq_false c36
      have hE : r = rGrow k r := by unfold rGrow; (first | rw [if_neg c16] | rw [if_pos c16] | skip); (first | rw [if_neg c36] | rw [if_pos c36] | skip)
      exact hret _ _ _ _ dX10_grows_46 (by rw [← hE]; exact hP) (by rw [← hE]; exact hD) hS
    ·
      have c36 := bI_n0.mp c36
      have c36 := of_decide_eq_true c36
      refine lv_aload_n hx hb dX10_grows_39 rfl (lv_at hl 2 rfl) ?_
      refine lv_iload_n hx hb dX10_grows_40 rfl (lv_at hl 3 rfl) ?_
      refine lv_iconst (v := 3) hx hb dX10_grows_41 (by decide) ?_
      refine lv_iconst (v := -1) hx hb dX10_grows_42 (by decide) ?_
      refine wrSv (As := [.ref (b), .int (nI k), .int (3), .int (-1)]) (rest := []) ⟨hx, hb, hml, hown, hts⟩ (c_X10_closes l D T b r k 3 (-1) (by first | omega | assumption | decide) _) (va_cwS 4 hts gX10_grows_X10_closes rfl rfl rfl (by decide +kernel) ⟨Nat.le_of_ble_eq_true rfl, Nat.le_of_ble_eq_true rfl⟩) (Foc.rfl _ _) hK hP hD hS hA rfl hl.1 rfl (Nat.le_of_ble_eq_true rfl) ⟨Nat.zero_le _, Nat.zero_le _⟩ dX10_grows_43 (fun H locs hP hD hS => ?_)
      have hP : va_P D vwCl ([(b, .inl (T 0, 202, .inl (rCloses r k 3 (-1))))]) H := hP
      have hD : va_D A ([(b, .inl (T 0, 202, .inl (rCloses r k 3 (-1))))]) := hD
      have hE : rCloses r k 3 (-1) = rGrow k r := by unfold rGrow; (first | rw [if_neg c16] | rw [if_pos c16] | skip); (first | rw [if_neg c36] | rw [if_pos c36] | skip)
      exact hret _ _ _ _ dX10_grows_46 (by rw [← hE]; exact hP) (by rw [← hE]; exact hD) hS
  ·
    refine lv_aload_n hx hb dX10_grows_19 rfl (lv_at hl 2 rfl) ?_
    refine lv_iload_n hx hb dX10_grows_20 rfl (lv_at hl 0 rfl) ?_
    refine lv_bipush (v := 9) hx hb dX10_grows_21 (by decide) ?_
    refine lv_aload_n hx hb dX10_grows_23 rfl (lv_at hl 2 rfl) ?_
    refine lv_iload_n hx hb dX10_grows_24 rfl (lv_at hl 0 rfl) ?_
    refine aldI hx hb hK hP 0 0 rfl rfl (34 + 7 * k + 2) rfl (by omega) (by decide) dX10_grows_25 ?_
    refine lv_iconst (v := 1) hx hb dX10_grows_26 (by decide) ?_
    refine lv_iadd hx hb dX10_grows_27 ?_
    refine rdT (As := [.int (9), .int ((r (34 + 7 * k + 2)) + 1)]) (rest := [.int (nI (34 + 7 * k + 2)), .ref (b)]) ⟨hx, hb, hml, hown, hts⟩ (c_X10_less l D T 9 ((r (34 + 7 * k + 2)) + 1) ) (va_cwS 2 hts gX10_grows_X10_less rfl rfl rfl (by decide +kernel) ⟨Nat.le_of_ble_eq_true rfl, Nat.le_of_ble_eq_true rfl⟩) rfl hl.1 rfl (Nat.le_of_ble_eq_true rfl) ⟨Nat.zero_le _, Nat.zero_le _⟩ dX10_grows_28 ?_
    refine astI hx hb hK hP hD hS 0 0 rfl rfl (34 + 7 * k + 2) rfl (by omega) (by decide) dX10_grows_31 (fun H locs hP hD hS => ?_)
    have hP : va_P D vwCl ([(b, .inl (T 0, 202, .inl (va_up r (34 + 7 * k + 2) (if 9 < ((r (34 + 7 * k + 2)) + 1) then 9 else ((r (34 + 7 * k + 2)) + 1)))))]) H := hP
    have hD : va_D A ([(b, .inl (T 0, 202, .inl (va_up r (34 + 7 * k + 2) (if 9 < ((r (34 + 7 * k + 2)) + 1) then 9 else ((r (34 + 7 * k + 2)) + 1)))))]) := hD
    refine lv_iload_n hx hb dX10_grows_32 rfl (lv_at hl 1 rfl) ?_
    refine rdT (As := [.int (r 0 - r (34 + 7 * k + 3))]) (rest := []) ⟨hx, hb, hml, hown, hts⟩ (c_X10_isTooOld l D T (r 0 - r (34 + 7 * k + 3)) ) (va_cwS 1 hts gX10_grows_X10_isTooOld rfl rfl rfl (by decide +kernel) ⟨Nat.le_of_ble_eq_true rfl, Nat.le_of_ble_eq_true rfl⟩) rfl hl.1 rfl (Nat.le_of_ble_eq_true rfl) ⟨Nat.zero_le _, Nat.zero_le _⟩ dX10_grows_33 ?_
    refine lv_if_eq (tgt := 46) hx hb dX10_grows_36 (by decide) (fun c36 => ?_) (fun c36 => ?_)
    ·
      have c36 := bI_0.mp c36
      have c36 := of_decide_eq_false c36
      have hE : va_up r (34 + 7 * k + 2) (if 9 < ((r (34 + 7 * k + 2)) + 1) then 9 else ((r (34 + 7 * k + 2)) + 1)) = rGrow k r := by unfold rGrow; (first | rw [if_neg c16] | rw [if_pos c16] | skip); (first | rw [if_neg c36] | rw [if_pos c36] | skip)
      exact hret _ _ _ _ dX10_grows_46 (by rw [← hE]; exact hP) (by rw [← hE]; exact hD) hS
    ·
      have c36 := bI_n0.mp c36
      have c36 := of_decide_eq_true c36
      refine lv_aload_n hx hb dX10_grows_39 rfl (lv_at hl 2 rfl) ?_
      refine lv_iload_n hx hb dX10_grows_40 rfl (lv_at hl 3 rfl) ?_
      refine lv_iconst (v := 3) hx hb dX10_grows_41 (by decide) ?_
      refine lv_iconst (v := -1) hx hb dX10_grows_42 (by decide) ?_
      refine wrSv (As := [.ref (b), .int (nI k), .int (3), .int (-1)]) (rest := []) ⟨hx, hb, hml, hown, hts⟩ (c_X10_closes l D T b (va_up r (34 + 7 * k + 2) (if 9 < ((r (34 + 7 * k + 2)) + 1) then 9 else ((r (34 + 7 * k + 2)) + 1))) k 3 (-1) (by first | omega | assumption | decide) _) (va_cwS 4 hts gX10_grows_X10_closes rfl rfl rfl (by decide +kernel) ⟨Nat.le_of_ble_eq_true rfl, Nat.le_of_ble_eq_true rfl⟩) (Foc.rfl _ _) hK hP hD hS hA rfl hl.1 rfl (Nat.le_of_ble_eq_true rfl) ⟨Nat.zero_le _, Nat.zero_le _⟩ dX10_grows_43 (fun H locs hP hD hS => ?_)
      have hP : va_P D vwCl ([(b, .inl (T 0, 202, .inl (rCloses (va_up r (34 + 7 * k + 2) (if 9 < ((r (34 + 7 * k + 2)) + 1) then 9 else ((r (34 + 7 * k + 2)) + 1))) k 3 (-1))))]) H := hP
      have hD : va_D A ([(b, .inl (T 0, 202, .inl (rCloses (va_up r (34 + 7 * k + 2) (if 9 < ((r (34 + 7 * k + 2)) + 1) then 9 else ((r (34 + 7 * k + 2)) + 1))) k 3 (-1))))]) := hD
      have hE : rCloses (va_up r (34 + 7 * k + 2) (if 9 < ((r (34 + 7 * k + 2)) + 1) then 9 else ((r (34 + 7 * k + 2)) + 1))) k 3 (-1) = rGrow k r := by unfold rGrow; (first | rw [if_neg c16] | rw [if_pos c16] | skip); (first | rw [if_neg c36] | rw [if_pos c36] | skip)
      exact hret _ _ _ _ dX10_grows_46 (by rw [← hE]; exact hP) (by rw [← hE]; exact hD) hS

set_option maxHeartbeats 4000000 in
set_option maxRecDepth 100000 in
theorem c_X10_ends (l : Launch) (D : va_G) (T : Nat → ClassId) (b : Nat) (r : Nat → Int32) (N : Nat) (C : Nat) (nt : Nat) (K : Nat) (hN : r 6 = nI N) (hN2 : N ≤ 24) (hC : r 4 = nI C) (hC1 : 0 < C) (hC2 : C ≤ 10) (hn : r 0 = nI nt) (hnt : nt < 2 ^ 20) (hSo : ∀ k, k < N → ∃ q, q < 4 ∧ r (34 + 7 * k + 1) = nI q) (hKn : r 5 = nI K) (hK2 : K ≤ 5) (hSK : ∀ j, j < K → ∃ S, S ≤ 9 ∧ r (19 + 3 * j) = nI S) (sz : Nat) : Met l yX10_ends wsX10_ends ({ frames := 7, cells := 0, slots := 0, locals := 151 } : Room) (va_Pc [.ref (b)] (PS D T ([(b, .inl (T 0, 202, .inl r))]) sz)) (va_Qi (fun r9 (_ : Unit) => r9 = (cntR (rEnds N K C nt r) 1 N - cntR r 1 N)) (fun _ t => QS D T (va_A ([(b, .inl (T 0, 202, .inl r))]) sz) ([(b, .inl (T 0, 202, .inl (rEnds N K C nt r)))]) t) (va_A ([(b, .inl (T 0, 202, .inl r))]) sz)) 0 0 (va_A ([(b, .inl (T 0, 202, .inl r))]) sz) := by
  refine metSi (cc := cX10_ends) (maxL := 3) (ty := .int) (by decide) rfl (by rfl) (Nat.le_of_ble_eq_true rfl) ?_
  intro p e s m args below meth c Q ls A hx hb hml hown hts hP hK hD hA hS hl hret
  have hown : s.vm.findClass RX10 = some m.cls := hown
  have hl : lv_has ls 3 [(0, .ref (b))] := hl
  refine lv_aload_n hx hb dX10_ends_0 rfl (lv_at hl 0 rfl) ?_
  refine lv_iconst (v := 1) hx hb dX10_ends_1 (by decide) ?_
  refine rdS (As := [.ref (b), .int (1)]) (rest := []) ⟨hx, hb, hml, hown, hts⟩ (c_X10_countOf l D T b r 1 N hN hN2) (va_cwS 2 hts gX10_ends_X10_countOf rfl rfl rfl (by decide +kernel) ⟨Nat.le_of_ble_eq_true rfl, Nat.le_of_ble_eq_true rfl⟩) hK hP rfl hl.1 rfl (Nat.le_of_ble_eq_true rfl) ⟨Nat.zero_le _, Nat.zero_le _⟩ dX10_ends_2 ?_
  refine lv_istore_n (lv' := [(1, .int (cntR r 1 N)), (0, .ref (b))]) hx hb dX10_ends_5 rfl hl (by decide) rfl (fun ls hl => ?_)
  refine lv_iconst (v := 0) hx hb dX10_ends_6 (by decide) ?_
  refine lv_istore_n (lv' := [(2, .int (0)), (1, .int (cntR r 1 N)), (0, .ref (b))]) hx hb dX10_ends_7 rfl hl (by decide) rfl (fun ls hl => ?_)
  have L8 : ∀ (n9 : Nat) (i : Nat) (r1 : Nat → Int32), (K - i) < n9 → (i ≤ K) → (iter (rClerks N C nt) (K - i) i r1 = iter (rClerks N C nt) K 0 r) → (KR r r1) → ∀ (H : Heap) (locs : List Loc) (ls : Array Slot), va_P D vwCl ([(b, .inl (T 0, 202, .inl r1))]) H → va_D A ([(b, .inl (T 0, 202, .inl r1))]) → va_S A s.heap H locs → lv_has ls 3 [(2, .int (nI i)), (1, .int (cntR r 1 N)), (0, .ref (b))] → W p l e ({ frames := 7, cells := 0, slots := 0, locals := 151 } : Room) s m args below meth c H locs 0 0 Q (F0 m 8 ls []) := by
    intro n9
    induction n9 with
    | zero => intro i r1 hm9; exact absurd hm9 (Nat.not_lt_zero _)
    | succ n9 ih =>
      intro i r1 hm9 hk9 hR hKR H locs ls hP hD hS hl
      have hN1 : r1 6 = nI N := (hKR.1 6 (by omega)).trans hN
      have hC0 : r1 4 = nI C := (hKR.1 4 (by omega)).trans hC
      have hn1 : r1 0 = nI nt := (hKR.1 0 (by omega)).trans hn
      have hSo1 : ∀ k, k < N → ∃ q, q < 4 ∧ r1 (34 + 7 * k + 1) = nI q := fun k hk => by obtain ⟨q, g1, g2⟩ := hSo k hk; exact ⟨q, g1, (hKR.2.2.2 k).2.1.trans g2⟩
      refine lv_iload_n hx hb dX10_ends_8 rfl (lv_at hl 0 rfl) ?_
      refine lv_aload_n hx hb dX10_ends_9 rfl (lv_at hl 2 rfl) ?_
      refine lv_iconst (v := 5) hx hb dX10_ends_10 (by decide) ?_
      refine aldI hx hb hK hP 0 0 rfl rfl (5) rfl (by omega) (by decide) dX10_ends_11 ?_
      refine endI (r := nI K) ((hKR.1 5 (by omega)).trans hKn) ?_
      refine lv_icmp_ge (tgt := 26) hx hb dX10_ends_12 (by decide) (fun c12 => ?_) (fun c12 => ?_)
      ·
        have c12 : K ≤ i := (nI_leI (a := K) (b := i) (by omega) (by omega)).mp c12
        rw [iter_done (by omega)] at hR
        refine lv_aload_n hx hb dX10_ends_26 rfl (lv_at hl 2 rfl) ?_
        refine lv_iconst (v := 0) hx hb dX10_ends_27 (by decide) ?_
        refine lv_dup2_11 hx hb dX10_ends_28 rfl rfl ?_
        refine aldI hx hb hK hP 0 0 rfl rfl (0) rfl (by omega) (by decide) dX10_ends_29 ?_
        refine lv_iconst (v := 1) hx hb dX10_ends_30 (by decide) ?_
        refine lv_iadd hx hb dX10_ends_31 ?_
        refine astI hx hb hK hP hD hS 0 0 rfl rfl (0) rfl (by omega) (by decide) dX10_ends_32 (fun H locs hP hD hS => ?_)
        have hP : va_P D vwCl ([(b, .inl (T 0, 202, .inl (va_up r1 0 ((r1 0) + 1))))]) H := hP
        have hD : va_D A ([(b, .inl (T 0, 202, .inl (va_up r1 0 ((r1 0) + 1))))]) := hD
        refine lv_iconst (v := 0) hx hb dX10_ends_33 (by decide) ?_
        refine lv_istore_n (lv' := [(2, .int (0)), (1, .int (cntR r 1 N)), (0, .ref (b))]) hx hb dX10_ends_34 rfl hl (by decide) rfl (fun ls hl => ?_)
        have L35 : ∀ (n9 : Nat) (k : Nat) (r3 : Nat → Int32), (N - k) < n9 → (k ≤ N) → (iter rGrows (N - k) k r3 = rEnds N K C nt r) → (r3 6 = nI N) → ∀ (H : Heap) (locs : List Loc) (ls : Array Slot), va_P D vwCl ([(b, .inl (T 0, 202, .inl r3))]) H → va_D A ([(b, .inl (T 0, 202, .inl r3))]) → va_S A s.heap H locs → lv_has ls 3 [(2, .int (nI k)), (1, .int (cntR r 1 N)), (0, .ref (b))] → W p l e ({ frames := 7, cells := 0, slots := 0, locals := 151 } : Room) s m args below meth c H locs 0 0 Q (F0 m 35 ls []) := by
          intro n9
          induction n9 with
          | zero => intro k r3 hm9; exact absurd hm9 (Nat.not_lt_zero _)
          | succ n9 ih =>
            intro k r3 hm9 hk8 hS9 hN3 H locs ls hP hD hS hl
            refine lv_iload_n hx hb dX10_ends_35 rfl (lv_at hl 0 rfl) ?_
            refine lv_aload_n hx hb dX10_ends_36 rfl (lv_at hl 2 rfl) ?_
            refine lv_bipush (v := 6) hx hb dX10_ends_37 (by decide) ?_
            refine aldI hx hb hK hP 0 0 rfl rfl (6) rfl (by omega) (by decide) dX10_ends_39 ?_
            refine endI (r := nI N) (hN3) ?_
            refine lv_icmp_ge (tgt := 62) hx hb dX10_ends_40 (by decide) (fun c40 => ?_) (fun c40 => ?_)
            ·
              have c40 : N ≤ k := (nI_leI (a := N) (b := k) (by omega) (by omega)).mp c40
              rw [iter_done (by omega)] at hS9
              refine lv_aload_n hx hb dX10_ends_62 rfl (lv_at hl 2 rfl) ?_
              refine lv_iconst (v := 1) hx hb dX10_ends_63 (by decide) ?_
              refine rdS (As := [.ref (b), .int (1)]) (rest := []) ⟨hx, hb, hml, hown, hts⟩ (c_X10_countOf l D T b r3 1 N hN3 hN2) (va_cwS 2 hts gX10_ends_X10_countOf rfl rfl rfl (by decide +kernel) ⟨Nat.le_of_ble_eq_true rfl, Nat.le_of_ble_eq_true rfl⟩) hK hP rfl hl.1 rfl (Nat.le_of_ble_eq_true rfl) ⟨Nat.zero_le _, Nat.zero_le _⟩ dX10_ends_64 ?_
              refine lv_iload_n hx hb dX10_ends_67 rfl (lv_at hl 1 rfl) ?_
              refine lv_isub hx hb dX10_ends_68 ?_
              refine endI (r := cntR (rEnds N K C nt r) 1 N - cntR r 1 N) (by rw [hS9]) ?_
              have hE : r3 = rEnds N K C nt r := by exact hS9
              exact hret _ _ _ _ dX10_ends_69 (by rw [← hE]; exact hP) (by rw [← hE]; exact hD) hS
            ·
              have c40 : ¬ N ≤ k := fun h9 => c40 ((nI_leI (a := N) (b := k) (by omega) (by omega)).mpr h9)
              refine lv_aload_n hx hb dX10_ends_43 rfl (lv_at hl 2 rfl) ?_
              refine lv_iload_n hx hb dX10_ends_44 rfl (lv_at hl 0 rfl) ?_
              refine rdS (As := [.ref (b), .int (nI k)]) (rest := []) ⟨hx, hb, hml, hown, hts⟩ (c_X10_waits l D T b r3 k (by first | omega | assumption | decide)) (va_cwS 2 hts gX10_ends_X10_waits rfl rfl rfl (by decide +kernel) ⟨Nat.le_of_ble_eq_true rfl, Nat.le_of_ble_eq_true rfl⟩) hK hP rfl hl.1 rfl (Nat.le_of_ble_eq_true rfl) ⟨Nat.zero_le _, Nat.zero_le _⟩ dX10_ends_45 ?_
              refine lv_if_eq (tgt := 56) hx hb dX10_ends_48 (by decide) (fun c48 => ?_) (fun c48 => ?_)
              ·
                have c48 := bI_0.mp c48
                refine lv_iinc (v := nI (k + 1)) (lv' := [(2, .int (nI (k + 1))), (1, .int (cntR r 1 N)), (0, .ref (b))]) hx hb dX10_ends_56 hl (k := 0) rfl (nI_1 _) (by decide) rfl (fun ls hl => ?_)
                refine lv_goto (tgt := 35) hx hb dX10_ends_59 (by decide) ?_
                exact ih (k + 1) r3 (by omega) (by omega) (by rw [iter_step (by omega)] at hS9; unfold rGrows at hS9 ⊢; first | (rw [if_neg (of_decide_eq_false c48)] at hS9; exact hS9) | (rw [if_pos (of_decide_eq_true c48)] at hS9; exact hS9)) (by first | exact hN3 | exact (rGrow_lo (by omega)).trans hN3) _ _ _ hP hD hS (lv_sub hl [0, 1, 2] rfl)
              ·
                have c48 := bI_n0.mp c48
                refine lv_aload_n hx hb dX10_ends_51 rfl (lv_at hl 2 rfl) ?_
                refine lv_iload_n hx hb dX10_ends_52 rfl (lv_at hl 0 rfl) ?_
                refine wrSv (As := [.ref (b), .int (nI k)]) (rest := []) ⟨hx, hb, hml, hown, hts⟩ (c_X10_grows l D T b r3 k (by first | omega | assumption | decide) _) (va_cwS 2 hts gX10_ends_X10_grows rfl rfl rfl (by decide +kernel) ⟨Nat.le_of_ble_eq_true rfl, Nat.le_of_ble_eq_true rfl⟩) (Foc.rfl _ _) hK hP hD hS hA rfl hl.1 rfl (Nat.le_of_ble_eq_true rfl) ⟨Nat.zero_le _, Nat.zero_le _⟩ dX10_ends_53 (fun H locs hP hD hS => ?_)
                have hP : va_P D vwCl ([(b, .inl (T 0, 202, .inl (rGrow k r3)))]) H := hP
                have hD : va_D A ([(b, .inl (T 0, 202, .inl (rGrow k r3)))]) := hD
                refine lv_iinc (v := nI (k + 1)) (lv' := [(2, .int (nI (k + 1))), (1, .int (cntR r 1 N)), (0, .ref (b))]) hx hb dX10_ends_56 hl (k := 0) rfl (nI_1 _) (by decide) rfl (fun ls hl => ?_)
                refine lv_goto (tgt := 35) hx hb dX10_ends_59 (by decide) ?_
                exact ih (k + 1) (rGrow k r3) (by omega) (by omega) (by rw [iter_step (by omega)] at hS9; unfold rGrows at hS9 ⊢; first | (rw [if_neg (of_decide_eq_false c48)] at hS9; exact hS9) | (rw [if_pos (of_decide_eq_true c48)] at hS9; exact hS9)) (by first | exact hN3 | exact (rGrow_lo (by omega)).trans hN3) _ _ _ hP hD hS (lv_sub hl [0, 1, 2] rfl)
        exact L35 _ 0 (va_up r1 0 ((r1 0) + 1)) (Nat.lt_succ_self _) (by omega) (by rw [hR]; rfl) (by exact hN1) _ _ _ hP hD hS (lv_sub hl [0, 1, 2] rfl)
      ·
        have c12 : ¬ K ≤ i := fun h9 => c12 ((nI_leI (a := K) (b := i) (by omega) (by omega)).mpr h9)
        refine lv_aload_n hx hb dX10_ends_15 rfl (lv_at hl 2 rfl) ?_
        refine lv_iload_n hx hb dX10_ends_16 rfl (lv_at hl 0 rfl) ?_
        refine wrSv (As := [.ref (b), .int (nI i)]) (rest := []) ⟨hx, hb, hml, hown, hts⟩ (c_X10_works l D T b r1 i N C nt hN1 hN2 hC0 hC1 hC2 hn1 hnt hSo1 (by omega) (by have g := (hKR.2.2.1 i).resolve_right (by omega); rw [g]; exact hSK i (by omega)) _) (va_cwS 2 hts gX10_ends_X10_works rfl rfl rfl (by decide +kernel) ⟨Nat.le_of_ble_eq_true rfl, Nat.le_of_ble_eq_true rfl⟩) (Foc.rfl _ _) hK hP hD hS hA rfl hl.1 rfl (Nat.le_of_ble_eq_true rfl) ⟨Nat.zero_le _, Nat.zero_le _⟩ dX10_ends_17 (fun H locs hP hD hS => ?_)
        have hP : va_P D vwCl ([(b, .inl (T 0, 202, .inl (rWorks N C nt i (costR C nt r1) (1 + r1 (19 + 3 * i) / 3).toNatClampNeg r1)))]) H := hP
        have hD : va_D A ([(b, .inl (T 0, 202, .inl (rWorks N C nt i (costR C nt r1) (1 + r1 (19 + 3 * i) / 3).toNatClampNeg r1)))]) := hD
        refine lv_iinc (v := nI (i + 1)) (lv' := [(2, .int (nI (i + 1))), (1, .int (cntR r 1 N)), (0, .ref (b))]) hx hb dX10_ends_20 hl (k := 0) rfl (nI_1 _) (by decide) rfl (fun ls hl => ?_)
        refine lv_goto (tgt := 8) hx hb dX10_ends_23 (by decide) ?_
        exact ih (i + 1) (rWorks N C nt i (costR C nt r1) (1 + r1 (19 + 3 * i) / 3).toNatClampNeg r1) (by omega) (by omega) (by rw [iter_step (by omega)] at hR; exact hR) (by exact KR.works (by omega) hKR) _ _ _ hP hD hS (lv_sub hl [0, 1, 2] rfl)
  exact L8 _ 0 r (Nat.lt_succ_self _) (by omega) (by rfl) (by exact KR.rfl) _ _ _ hP hD hS (lv_sub hl [0, 1, 2] rfl)
