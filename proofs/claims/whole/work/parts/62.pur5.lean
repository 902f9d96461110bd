/-! the two sides alike: a clerk's work -/
section WK
variable {N K C nt : Nat}
theorem cancel1 {W a x R : Int32} (h : W + (a + 1) = x + 1 + R) : W + a = x + R := by
  have e : W + a + 1 = x + R + 1 := by rw [Int32.add_assoc, h, Int32.add_assoc, Int32.add_assoc, Int32.add_comm 1 R]
  have := congrArg (fun z => z - 1) e
  simpa [Int32.add_sub_cancel] using this
theorem cntR_ans {r : Nat → Int32} {q j : Nat} (hj : j < 5) (hq : q < N) (h0 : r (34 + 7 * q + 4) = 0) : cntR (rAns r q j) 1 N = cntR r 1 N + 1 := by
  refine cntI_flip (k := q) ?_ ?_ ?_ (by omega) (by omega)
  · rw [h0]; rfl
  · rw [rAns_ne r hj (by omega) (by omega), rCloses_st]; rfl
  · intro k hk
    rw [rAns_ne r hj (by omega) (by omega), rCloses_ne _ _ _ _ (by omega) (by omega) (by omega)]
theorem cntR_close {r : Nat → Int32} {q : Nat} {st ck : Int32} (hs : st ≠ 1) (h0 : r (34 + 7 * q + 4) = 0) : cntR (rCloses r q st ck) 1 N = cntR r 1 N := by
  refine cntI_congr (fun k _ _ => ?_)
  by_cases e : k = q
  · subst e
    rw [rCloses_st, h0]
    simp [hs]
  · rw [rCloses_ne _ _ _ _ (by omega) (by omega) (by omega)]
theorem rBurn_ne {r : Nat → Int32} {j a : Nat} {z : Int32} (h1 : a ≠ 7) (h2 : a ≠ 19 + 3 * j + 1) : rBurn r j z a = r a := by
  unfold rBurn; rw [up1, if_neg h1, up1, if_neg h2]
theorem cntR_burn {r : Nat → Int32} {j : Nat} {z : Int32} (hj : j < 5) : cntR (rBurn r j z) 1 N = cntR r 1 N := by
  refine cntI_congr (fun k _ _ => ?_)
  rw [rBurn_ne (by omega) (by omega)]
theorem RO.free_ans {o : Nat → Nat → Int32} {r : Nat → Int32} (h : RO o r N K C) (hK : K ≤ 5) (hC : C ≤ 10) {q j : Nat} (hj : j < 5) (hn : r 0 = nI nt) : RO (pileClose o q 1 (nI nt) (nI j)) (rAns r q j) N K C :=
  ((h.close hK hC q 1 (nI j) (nI nt) hn).ans hK hC hj _).free (Or.inr (Or.inr (Or.inr rfl))) _
theorem bits_keep (o : Nat → Nat → Int32) (q j : Nat) (st z ck cost : Int32) : bitsC C nt (burnC (pileClose o q st z ck) j cost) = bitsC C nt o := rfl
theorem work_R {j c : Nat} {bits : Int32} (hK : K ≤ 5) (hC0 : 0 < C) (hC : C ≤ 10) (hnt : nt < 2 ^ 18) (hj : j < K) (hc : c < 2 ^ 18) : ∀ (n : Nat) (x : Int32) (o : Nat → Nat → Int32) (r : Nat → Int32), RO o r N K C → VI r N K nt → r 0 = nI nt → (∀ k, k < N → ∃ q, q < 4 ∧ r (34 + 7 * k + 1) = nI q) → bits = bitsC C nt o →
    RO (workC N j bits (nI c) n x o).2 (rWorks N C nt j (nI c) n r) N K C ∧ VI (rWorks N C nt j (nI c) n r) N K nt ∧ (workC N j bits (nI c) n x o).1 + cntR r 1 N = x + cntR (rWorks N C nt j (nI c) n r) 1 N
  | 0, x, o, r, h, hv, hn, hs, hb => ⟨h, hv, rfl⟩
  | n + 1, x, o, r, h, hv, hn, hs, hb => by
    have hj5 : j < 5 := by omega
    by_cases hlt : o 3 j < nI c
    · rw [workC_lt hlt, rWorks_lt (by rw [← h.l j hj]; exact hlt)]
      exact ⟨h, hv, rfl⟩
    · have hlt2 : ¬ r (19 + 3 * j + 1) < nI c := by rw [← h.l j hj]; exact hlt
      have ha : ∀ k, k < N → (0 : Int32) < r (34 + 7 * k + 2) := by
        intro k hk
        obtain ⟨z, h1, h2, h3⟩ := hv.ang k hk
        rw [h3, Int32.lt_iff_toInt_lt, nI_toInt (by omega), show (0 : Int32).toInt = 0 from by decide]
        omega
      have hm : mostC o bits N = angR r N C nt := by rw [hb]; exact mostC_R h hC0 hs ha
      have hf := firstC_old h hn hnt hv.fl
      have ho : o 0 0 = nI nt := (h.i 0 (by decide)).trans hn
      cases hq : angR r N C nt with
      | some q =>
        rw [hq] at hm
        obtain ⟨hqN, hq0⟩ := angR_lt hq
        rw [show workC N j bits (nI c) (n + 1) x o = workC N j bits (nI c) n (x + 1) (burnC (pileClose o q 1 (o 0 0) (nI j)) j (nI c)) from by simp only [workC, hm, if_neg hlt], ho, rWorks_t hlt2 (by rw [rHandles_some hq]), rHandles_some hq]
        have hoil : ¬ rAns r q j (19 + 3 * j + 1) < nI c := by rw [rAns_ne r hj5 (by omega) (by omega), rCloses_ne _ _ _ _ (by omega) (by omega) (by omega)]; exact hlt2
        have ih := work_R hK hC0 hC hnt hj hc n (x + 1) (burnC (pileClose o q 1 (nI nt) (nI j)) j (nI c)) (rBurn (rAns r q j) j (nI c)) ((h.free_ans hK hC hj5 hn).burn hK hC hj _) ((hv.answer hK hqN hj hq0).burn hK hj hoil hc) (by rw [rBurn_ne (by omega) (by omega), rAns_ne r hj5 (by omega) (by omega), rCloses_ne _ _ _ _ (by omega) (by omega) (by omega)]; exact hn) (fun k hk => by rw [rBurn_ne (by omega) (by omega), rAns_ne r hj5 (by omega) (by omega), rCloses_ne _ _ _ _ (by omega) (by omega) (by omega)]; exact hs k hk) hb
        refine ⟨ih.1, ih.2.1, ?_⟩
        have e := ih.2.2
        rw [cntR_burn hj5, cntR_ans hj5 hqN hq0] at e
        exact cancel1 e
      | none =>
        rw [hq] at hm
        cases hq2 : oldR r N with
        | none =>
          rw [hq2] at hf
          have hf : firstC o (o 0 0 - 14) N = none := hf
          rw [show workC N j bits (nI c) (n + 1) x o = (x, o) from by simp only [workC, hm, hf, if_neg hlt], rWorks_f (by rw [rHandles_none hq hq2])]
          exact ⟨h, hv, rfl⟩
        | some q =>
          rw [hq2] at hf
          have hf : firstC o (o 0 0 - 14) N = if 14 ≤ r 0 - r (34 + 7 * q + 3) then some q else none := hf
          by_cases h14 : 14 ≤ r 0 - r (34 + 7 * q + 3)
          · rw [if_pos h14] at hf
            have hqN : q < N ∧ r (34 + 7 * q + 4) = 0 := by
              rcases bestB_lt hq2 with g | ⟨_, g, g2⟩
              · cases g
              · exact ⟨by omega, of_decide_eq_true g2⟩
            obtain ⟨hqN, hq0⟩ := hqN
            rw [show workC N j bits (nI c) (n + 1) x o = workC N j bits (nI c) n x (burnC (pileClose o q 2 (o 0 0) (nI j)) j (nI c)) from by simp only [workC, hm, hf, if_neg hlt], ho, rWorks_t hlt2 (by rw [rHandles_old hq hq2 h14]), rHandles_old hq hq2 h14]
            have hoil : ¬ rCloses r q 2 (nI j) (19 + 3 * j + 1) < nI c := by rw [rCloses_ne _ _ _ _ (by omega) (by omega) (by omega)]; exact hlt2
            have ih := work_R hK hC0 hC hnt hj hc n x (burnC (pileClose o q 2 (nI nt) (nI j)) j (nI c)) (rBurn (rCloses r q 2 (nI j)) j (nI c)) ((h.close hK hC q 2 (nI j) (nI nt) hn).burn hK hC hj _) ((hv.close (s := 2) hK hqN hq0 (Or.inl rfl) (Or.inr ⟨j, hj, rfl⟩)).burn hK hj hoil hc) (by rw [rBurn_ne (by omega) (by omega), rCloses_ne _ _ _ _ (by omega) (by omega) (by omega)]; exact hn) (fun k hk => by rw [rBurn_ne (by omega) (by omega), rCloses_ne _ _ _ _ (by omega) (by omega) (by omega)]; exact hs k hk) hb
            refine ⟨ih.1, ih.2.1, ?_⟩
            have e := ih.2.2
            rw [cntR_burn hj5, cntR_close (by decide) hq0] at e
            exact e
          · rw [if_neg h14] at hf
            rw [show workC N j bits (nI c) (n + 1) x o = (x, o) from by simp only [workC, hm, hf, if_neg hlt], rWorks_f (by rw [rHandles_young hq hq2 h14])]
            exact ⟨h, hv, rfl⟩
end WK
