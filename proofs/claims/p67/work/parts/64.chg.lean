/-! nights one behind the other; the other changes; one office alone -/
def pN (N K C : Nat) : Nat → Nat → (Nat → Nat → Int32) → (Nat → Nat → Int32)
  | 0, _, o => o
  | n + 1, nt, o => pN N K C n (nt + 1) (nightC N K C nt o).2
section PN
variable {N K C : Nat}
theorem ends_pN {nt : Nat} : ∀ (n i : Nat) (x : Int32) (o : Nat → Nat → Int32), (iter (endsC N K C nt) n i (x, o)).2 = pN N K C n (nt + i) o
  | 0, _, _, _ => rfl
  | n + 1, i, x, o => by
    show (iter (endsC N K C nt) n (i + 1) (endsC N K C nt i (x, o))).2 = pN N K C n (nt + i + 1) (nightC N K C (nt + i) o).2
    exact ends_pN n (i + 1) _ _
theorem OV.pN : ∀ (n : Nat) {nt : Nat} {o : Nat → Nat → Int32}, OV o N K C nt → nt + n < 2 ^ 18 → OV (pN N K C n nt o) N K C (nt + n)
  | 0, _, _, h, _ => h
  | n + 1, nt, o, h, hb => by
    obtain ⟨c, -, -, -, h1⟩ := night_all h (by omega)
    have h2 := OV.pN n h1 (by omega)
    rw [show nt + 1 + n = nt + (n + 1) by omega] at h2
    exact h2
theorem filed_night {nt : Nat} {o : Nat → Nat → Int32} (h : OV o N K C nt) (hb : nt + 1 < 2 ^ 18) : (nightC N K C nt o).2 7 = o 7 := by
  obtain ⟨c, -, -, hA, -⟩ := night_all h hb
  exact hA.2.1.2.2.2.2
theorem until_pN {j f : Nat} (hj : j < N) : ∀ (M nt : Nat) (o : Nat → Nat → Int32), OV o N K C nt → nt + M < 2 ^ 17 → o 7 j = nI f → f + 56 ≤ nt + M → f < 2 ^ 17 → 
    (cUntil N K C j M nt o).2 = pN N K C (cUntil N K C j M nt o).1 nt o ∧ ¬ pN N K C (cUntil N K C j M nt o).1 nt o 8 j = 0 ∧ (∀ m, m < (cUntil N K C j M nt o).1 → pN N K C m nt o 8 j = 0) ∧ (o 8 j = 0 → 0 < (cUntil N K C j M nt o).1) ∧ (o 8 j = 0 → nt + (cUntil N K C j M nt o).1 ≤ f + 56) := by
  intro M
  induction M with
  | zero =>
    intro nt o h hb h7 hf hf2
    have hn : ¬ o 8 j = 0 := by
      intro h8
      obtain ⟨p, q, a, f', -, -, -, -, hfn, -, -, -, g7, hst⟩ := h.co j hj
      have ef : f' = f := (nI_eq (by omega) (by omega)).mp (g7.symm.trans h7)
      rcases hst with ⟨-, -, hw⟩ | ⟨cc, -, -, -, -, ⟨e8, -⟩ | ⟨e8, -⟩ | ⟨e8, -⟩⟩
      · omega
      · rw [h8] at e8; exact absurd e8 (by decide)
      · rw [h8] at e8; exact absurd e8 (by decide)
      · rw [h8] at e8; exact absurd e8 (by decide)
    rw [cUntil_done hn]
    exact ⟨rfl, hn, fun m hm => absurd hm (Nat.not_lt_zero _), fun e => absurd e hn, fun e => absurd e hn⟩
  | succ M ih =>
    intro nt o h hb h7 hf hf2
    by_cases h8 : o 8 j = 0
    · rw [cUntil_step h8]
      obtain ⟨c, -, -, hA, h1⟩ := night_all h (show nt + 1 < 2 ^ 18 by omega)
      have hw : nt < f + 56 := by
        obtain ⟨p, q, a, f', -, -, -, -, hfn, -, -, -, g7, hst⟩ := h.co j hj
        have ef : f' = f := (nI_eq (by omega) (by omega)).mp (g7.symm.trans h7)
        rcases hst with ⟨-, -, hw⟩ | ⟨cc, -, -, -, -, ⟨e8, -⟩ | ⟨e8, -⟩ | ⟨e8, -⟩⟩
        · omega
        · rw [h8] at e8; exact absurd e8 (by decide)
        · rw [h8] at e8; exact absurd e8 (by decide)
        · rw [h8] at e8; exact absurd e8 (by decide)
      obtain ⟨i1, i2, i3, i4, i5⟩ := ih (nt + 1) _ h1 (by omega) (by rw [hA.2.1.2.2.2.2]; exact h7) (by omega) hf2
      refine ⟨i1, i2, fun m hm => ?_, fun _ => Nat.succ_pos _, fun _ => ?_⟩
      · cases m with
        | zero => exact h8
        | succ m => exact i3 m (Nat.lt_of_succ_lt_succ hm)
      · by_cases g8 : (nightC N K C nt o).2 8 j = 0
        · have := i5 g8
          show nt + ((cUntil N K C j M (nt + 1) (nightC N K C nt o).2).1 + 1) ≤ f + 56
          omega
        · rw [cUntil_done g8]
          show nt + (0 + 1) ≤ f + 56
          omega
    · rw [cUntil_done h8]
      exact ⟨rfl, h8, fun m hm => absurd hm (Nat.not_lt_zero _), fun e => absurd e h8, fun e => absurd e h8⟩
end PN
section CH
variable {o : Nat → Nat → Int32} {N K C nt : Nat}
theorem OI.up {o' : Nat → Nat → Int32} (h : OI o N K C nt) (h0 : ∀ i, i = 0 ∨ i = 4 ∨ i = 5 ∨ i = 7 → o' 0 i = o 0 i) (h2 : o' 2 = o 2) : OI o' N K C nt := by
  obtain ⟨a1, a2, a3, a4, a5, a6, a7, a8, a9, a10⟩ := h
  exact ⟨(h0 7 (by decide)).trans a1, a2, (h0 5 (by decide)).trans a3, a4, (h0 4 (by decide)).trans a5, a6, a7, (h0 0 (by decide)).trans a8, a9, by rw [h2]; exact a10⟩
theorem OC.eq {o' : Nat → Nat → Int32} {k : Nat} (h : OC o K nt k) (e : ∀ r, r = 4 ∨ r = 5 ∨ r = 6 ∨ r = 7 ∨ r = 8 ∨ r = 9 ∨ r = 10 → o' r k = o r k) : OC o' K nt k := by
  unfold OC
  rw [e 4 (by decide), e 5 (by decide), e 6 (by decide), e 7 (by decide), e 8 (by decide), e 9 (by decide), e 10 (by decide)]
  exact h
/-- one given up -/
theorem OV.give (h : OV o N K C nt) {q : Nat} (hq : q < N) (h8 : o 8 q = 0) : OV (pileClose o q 3 (o 0 0) (-1)) N K C nt := by
  have r8 : ∀ k, pileClose o q 3 (o 0 0) (-1) 8 k = if k = q then 3 else o 8 k := fun k => rfl
  have r9 : ∀ k, pileClose o q 3 (o 0 0) (-1) 9 k = if k = q then o 0 0 else o 9 k := fun k => rfl
  have r10 : ∀ k, pileClose o q 3 (o 0 0) (-1) 10 k = if k = q then -1 else o 10 k := fun k => rfl
  refine ⟨h.oi.up (fun i _ => rfl) rfl, h.cl, h.oil, fun k hk => ?_, fun k k' hk hk' g8 g8' h4 h5 => ?_, h.lm⟩
  · by_cases e : k = q
    · subst e
      obtain ⟨p, q', a, f, hp, hq', ha, ha9, hf, g4, g5, g6, g7, hst⟩ := h.co k hk
      rcases hst with ⟨-, -, hw⟩ | ⟨cc, -, -, -, -, ⟨e8, -⟩ | ⟨e8, -⟩ | ⟨e8, -⟩⟩
      · refine ⟨p, q', a, f, hp, hq', ha, ha9, hf, g4, g5, g6, g7, Or.inr ⟨nt, hf, Nat.le_refl _, by omega, ?_, Or.inr (Or.inr ⟨?_, ?_⟩)⟩⟩
        · rw [r9, if_pos rfl]; exact h.oi.2.2.2.2.2.2.2.1
        · rw [r8, if_pos rfl]
        · rw [r10, if_pos rfl]
      · rw [h8] at e8; exact absurd e8 (by decide)
      · rw [h8] at e8; exact absurd e8 (by decide)
      · rw [h8] at e8; exact absurd e8 (by decide)
    · refine (h.co k hk).eq (fun r hr => ?_)
      rcases hr with rfl | rfl | rfl | rfl | rfl | rfl | rfl
      · rfl
      · rfl
      · rfl
      · rfl
      · rw [r8, if_neg e]
      · rw [r9, if_neg e]
      · rw [r10, if_neg e]
  · have w : ∀ k, pileClose o q 3 (o 0 0) (-1) 8 k = 0 → o 8 k = 0 := by
      intro k g
      rw [r8] at g
      split at g
      · exact absurd g (by decide)
      · exact g
    exact h.un k k' hk hk' (w k g8) (w k' g8') h4 h5
/-- one filed -/
theorem OV.file (h : OV o N K C nt) (hN : N < 24) {p q a : Nat} (hp : p ≤ 99) (hq : q < 4) (ha : 0 < a) (ha9 : a ≤ 9) (hno : findC o (nI p) (nI q) N = none) : OV (pileAdd o N (nI p) (nI q) (nI a) (o 0 0)) (N + 1) K C nt := by
  have r : ∀ i k, k ≠ N → i ≠ 0 → pileAdd o N (nI p) (nI q) (nI a) (o 0 0) i k = o i k := by
    intro i k hk hi
    unfold pileAdd va_up
    by_cases e10 : i = 10
    · subst e10; rw [if_pos rfl, if_neg hk]
    · rw [if_neg e10]
      by_cases e9 : i = 9
      · subst e9; rw [if_pos rfl, if_neg hk]
      · rw [if_neg e9]
        by_cases e8 : i = 8
        · subst e8; rw [if_pos rfl, if_neg hk]
        · rw [if_neg e8]
          by_cases e7 : i = 7
          · subst e7; rw [if_pos rfl, if_neg hk]
          · rw [if_neg e7]
            by_cases e6 : i = 6
            · subst e6; rw [if_pos rfl, if_neg hk]
            · rw [if_neg e6]
              by_cases e5 : i = 5
              · subst e5; rw [if_pos rfl, if_neg hk]
              · rw [if_neg e5]
                by_cases e4 : i = 4
                · subst e4; rw [if_pos rfl, if_neg hk]
                · rw [if_neg e4, if_neg hi]
  have n : ∀ (f : Nat → Int32) (x : Int32), va_up f N x N = x := fun f x => if_pos rfl
  have nf : ∀ k, k < N → o 8 k = 0 → ¬ (o 4 k = nI p ∧ o 5 k = nI q) := by
    intro k hk h8 ⟨h4, h5⟩
    have := find_wait h hk h8
    rw [h4, h5, hno] at this
    cases this
  refine ⟨?_, h.cl, h.oil, fun k hk => ?_, fun k k' hk hk' g8 g8' h4 h5 => ?_, fun i hi => ?_⟩
  · obtain ⟨a1, a2, a3, a4, a5, a6, a7, a8, a9, a10⟩ := h.oi
    exact ⟨rfl, hN, a3, a4, a5, a6, a7, a8, a9, a10⟩
  · by_cases e : k = N
    · subst e
      have hnt : o 0 0 = nI nt := h.oi.2.2.2.2.2.2.2.1
      exact ⟨p, q, a, nt, hp, hq, ha, ha9, Nat.le_refl _, n _ _, n _ _, n _ _, (n (o 7) (o 0 0)).trans hnt, Or.inl ⟨n _ _, n _ _, by omega⟩⟩
    · exact (h.co k (by omega)).eq (fun i hi => r i k e (by omega))
  · by_cases e : k = N <;> by_cases e' : k' = N
    · rw [e, e']
    · exfalso
      subst e
      have h4' : nI p = o 4 k' := (n (o 4) (nI p)).symm.trans (h4.trans (r 4 k' e' (by decide)))
      have h5' : nI q = o 5 k' := (n (o 5) (nI q)).symm.trans (h5.trans (r 5 k' e' (by decide)))
      exact nf k' (by omega) ((r 8 k' e' (by decide)).symm.trans g8') ⟨h4'.symm, h5'.symm⟩
    · exfalso
      subst e'
      have h4' : o 4 k = nI p := (r 4 k e (by decide)).symm.trans (h4.trans (n (o 4) (nI p)))
      have h5' : o 5 k = nI q := (r 5 k e (by decide)).symm.trans (h5.trans (n (o 5) (nI q)))
      exact nf k (by omega) ((r 8 k e (by decide)).symm.trans g8) ⟨h4', h5'⟩
    · exact h.un k k' (by omega) (by omega) ((r 8 k e (by decide)).symm.trans g8) ((r 8 k' e' (by decide)).symm.trans g8') ((r 4 k e (by decide)).symm.trans (h4.trans (r 4 k' e' (by decide)))) ((r 5 k e (by decide)).symm.trans (h5.trans (r 5 k' e' (by decide))))
  · rcases hi with rfl | rfl | rfl
    · exact h.lm 1 (by decide)
    · exact h.lm 2 (by decide)
    · exact h.lm 3 (by decide)
/-- a clerk more -/
theorem OV.hire (h : OV o N K C nt) (hK : K < 5) {S w : Nat} (hS : S ≤ 9) (hw : w ≤ 99) : OV (staffAdd o K (nI S) (nI w)) N (K + 1) C nt := by
  have r2 : ∀ j, staffAdd o K (nI S) (nI w) 2 j = if j = K then nI S else o 2 j := fun j => rfl
  have r3 : ∀ j, staffAdd o K (nI S) (nI w) 3 j = if j = K then nI w else o 3 j := fun j => rfl
  refine ⟨?_, h.cl, fun j hj => ?_, fun k hk => ?_, h.un, fun i hi => ?_⟩
  · obtain ⟨a1, a2, a3, a4, a5, a6, a7, a8, a9, a10⟩ := h.oi
    refine ⟨a1, a2, rfl, hK, a5, a6, a7, a8, a9, fun j hj => ?_⟩
    rw [r2]
    by_cases e : j = K
    · rw [if_pos e]; exact ⟨S, hS, rfl⟩
    · rw [if_neg e]; exact a10 j (by omega)
  · rw [r3]
    by_cases e : j = K
    · rw [if_pos e]; exact ⟨w, hw, rfl⟩
    · rw [if_neg e]; exact h.oil j (by omega)
  · obtain ⟨p, q, a, f, hp, hq, ha, ha9, hf, g4, g5, g6, g7, hst⟩ := h.co k hk
    refine ⟨p, q, a, f, hp, hq, ha, ha9, hf, g4, g5, g6, g7, ?_⟩
    rcases hst with hst | ⟨cc, h1, h2, h3, e9, ⟨e8, j, hj, e10⟩ | ⟨e8, e14, j, hj, e10⟩ | ⟨e8, e10⟩⟩
    · exact Or.inl hst
    · exact Or.inr ⟨cc, h1, h2, h3, e9, Or.inl ⟨e8, j, by omega, e10⟩⟩
    · exact Or.inr ⟨cc, h1, h2, h3, e9, Or.inr (Or.inl ⟨e8, e14, j, by omega, e10⟩)⟩
    · exact Or.inr ⟨cc, h1, h2, h3, e9, Or.inr (Or.inr ⟨e8, e10⟩)⟩
  · rcases hi with rfl | rfl | rfl
    · exact h.lm 1 (by decide)
    · exact h.lm 2 (by decide)
    · exact h.lm 3 (by decide)
/-- a lantern -/
theorem OV.lamp (h : OV o N K C nt) {j : Nat} {x : Int32} (hx : ∃ w, w ≤ 99 ∧ x = nI w) : OV (va_up o 3 (va_up (o 3) j x)) N K C nt := by
  have r3 : ∀ i, va_up o 3 (va_up (o 3) j x) 3 i = if i = j then x else o 3 i := fun i => rfl
  refine ⟨h.oi.up (fun i _ => rfl) rfl, h.cl, fun i hi => ?_, h.co, h.un, h.lm⟩
  rw [r3]
  by_cases e : i = j
  · rw [if_pos e]; exact hx
  · rw [if_neg e]; exact h.oil i hi
/-- a cloud -/
theorem OV.cloud (h : OV o N K C nt) {j w : Nat} (hw : w ≤ 9) : OV (va_up o 1 (va_up (o 1) j (nI w))) N K C nt := by
  have r1 : ∀ i, va_up o 1 (va_up (o 1) j (nI w)) 1 i = if i = j then nI w else o 1 i := fun i => rfl
  refine ⟨h.oi.up (fun i _ => rfl) rfl, fun i hi => ?_, h.oil, h.co, h.un, h.lm⟩
  rw [r1]
  by_cases e : i = j
  · rw [if_pos e]; exact ⟨w, hw, rfl⟩
  · rw [if_neg e]; exact h.cl i hi
/-- a limit -/
theorem OV.lim (h : OV o N K C nt) {i : Nat} (hi : i = 1 ∨ i = 2 ∨ i = 3) {v : Int32} (hv : ∃ z, z ≤ 14 ∧ v = nI z) : OV (dS o i v) N K C nt := by
  have r0 : ∀ j, dS o i v 0 j = if j = i then v else o 0 j := fun j => rfl
  refine ⟨h.oi.up (fun j hj => ?_) rfl, h.cl, h.oil, h.co, h.un, fun j hj => ?_⟩
  · rw [r0, if_neg (by omega)]
  · rw [r0]
    by_cases e : j = i
    · rw [if_pos e]; exact hv
    · rw [if_neg e]; exact h.lm j hj
end CH
