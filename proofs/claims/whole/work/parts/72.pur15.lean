/-! reading a text, both sides: one step -/
section PP
variable {f f' : Nat → Int32} {L : Nat}
/-- both have failed, at the same place -/
def PF (g : CSt) (p : PSt) : Prop := g.2.2.2.1 = true ∧ p.2.2.2.2.2.1 = true ∧ g.2.2.2.2 = p.2.2.2.2.2.2 ∧ ∃ k, k < 2 ^ 31 ∧ p.2.2.2.2.2.2 = nI k
/-- neither has, and both look at the same token -/
def PO (f : Nat → Int32) (L : Nat) (g : CSt) (p : PSt) : Prop :=
  g.2.2.2.1 = false ∧ p.2.2.2.2.2.1 = false ∧ p.2.2.2.2.2.2 = -1 ∧ ∃ k0, k0 ≤ L ∧ g.1 = (tkR f L k0).2.2.1 ∧ g.2.1 = (tkR f L k0).1 ∧ g.2.2.1 = (tkR f L k0).2.1 ∧
    p.1 = (tkR f L k0).2.1 ∧ p.2.1 = nI (tkR f L k0).1 ∧ p.2.2.1 = (tkR f L k0).2.2.1 ∧ p.2.2.2.1 = (tkR f L k0).2.2.2.1 ∧ p.2.2.2.2.1 = (tkR f L k0).2.2.2.2
theorem PF.tk {g : CSt} {p : PSt} (h : PF g p) (b b' : Bool) : PF (tkC f L b g) (takesP f' L b' p) := by
  rw [tkC_w h.1, refC_t h.1, takesP_w h.2.1]; exact h
theorem PF.kind {g : CSt} {p : PSt} (h : PF g p) : g.2.2.2.1 = true := h.1
theorem PO.tk {g : CSt} {p : PSt} (h : PO f L g p) (hL : L ≤ 600) (hf : ∀ k, k < L → f' k = f k) {b b' : Bool} (hb : b = b') : (b = true ∧ PO f L (tkC f L b g) (takesP f' L b' p)) ∨ (b = false ∧ PF (tkC f L b g) (takesP f' L b' p)) := by
  subst hb
  obtain ⟨h1, h2, h3, k0, hk, e1, e2, e3, e4, e5, e6, e7, e8⟩ := h
  have hle := tkR_le (f := f) hk
  cases b with
  | true =>
    refine Or.inl ⟨rfl, ?_⟩
    rw [tkC_t h1 rfl, takesP_t h2 rfl]
    refine ⟨h1, h2, h3, (tkR f L k0).2.1, hle.2, ?_, ?_, ?_, ?_, ?_, ?_, ?_, ?_⟩
    · show (tkR f L g.2.2.1).2.2.1 = _; rw [e3]
    · show (tkR f L g.2.2.1).1 = _; rw [e3]
    · show (tkR f L g.2.2.1).2.1 = _; rw [e3]
    · show (tkR f' L p.1).2.1 = _; rw [e4, tkR_congr hf hle.2]
    · show nI (tkR f' L p.1).1 = _; rw [e4, tkR_congr hf hle.2]
    · show (tkR f' L p.1).2.2.1 = _; rw [e4, tkR_congr hf hle.2]
    · show (tkR f' L p.1).2.2.2.1 = _; rw [e4, tkR_congr hf hle.2]
    · show (tkR f' L p.1).2.2.2.2 = _; rw [e4, tkR_congr hf hle.2]
  | false =>
    refine Or.inr ⟨rfl, ?_⟩
    rw [tkC_f h1 rfl, refC_f h1, takesP_f h2 rfl]
    refine ⟨rfl, rfl, ?_, (tkR f L k0).1, by omega, e5⟩
    show nI g.2.1 = p.2.1
    rw [e2, e5]
theorem PO.kind {g : CSt} {p : PSt} (h : PO f L g p) : g.1 = p.2.2.1 := by
  obtain ⟨h1, h2, h3, k0, hk, e1, e2, e3, e4, e5, e6, e7, e8⟩ := h
  rw [e1, e6]
theorem PO.start {g : CSt} {p : PSt} (h : PO f L g p) : p.2.1 = nI g.2.1 := by
  obtain ⟨h1, h2, h3, k0, hk, e1, e2, e3, e4, e5, e6, e7, e8⟩ := h
  rw [e5, e2]
theorem PO.lt {g : CSt} {p : PSt} (h : PO f L g p) (hL : L ≤ 600) : g.2.1 < 2 ^ 31 := by
  obtain ⟨h1, h2, h3, k0, hk, e1, e2, e3, e4, e5, e6, e7, e8⟩ := h
  have hle := tkR_le (f := f) hk
  rw [e2]; omega
theorem PO.word {g : CSt} {p : PSt} (h : PO f L g p) {i : Nat} {W : Int64} (hi : i < 9) (hi0 : 0 < i) (hW : W = Int64.ofNat (litW i)) : wordC f i g = wordB p W := by
  obtain ⟨h1, h2, h3, k0, hk, e1, e2, e3, e4, e5, e6, e7, e8⟩ := h
  unfold wordC wordB
  rw [e1, e2, e3, e6, e8, hW]
  have hb := runN_ge (p := blankB) (f := f) (n := L - k0) (k := k0)
  generalize hk9 : runN blankB f (L - k0) k0 = k at hb
  by_cases hE : k = L
  · rw [tkR_end hk9 hE]; rfl
  · by_cases c2 : smallB (f k) = true
    · rw [tkR_word hk9 hE c2]
      show (decide ((1 : Int32) = 1) && (decide ((wordF f k (L - k) k 0).1 - k = litN i) && eqF f k (litF i) (litN i) 0)) = (decide ((1 : Int32) = 1) && decide ((wordF f k (L - k) k 0).2 = Int64.ofNat (litW i)))
      rw [word_eq hi hi0]
    · have c2 : smallB (f k) = false := by simpa using c2
      by_cases c3 : digB (f k) = true
      · rw [tkR_num hk9 hE c2 c3]
        have : ∀ z : Int32, z = 4 ∨ z = 2 → decide (z = 1) = false := by
          rintro z (rfl | rfl) <;> decide
        show (decide ((if 2 < (numF f k (L - k) k 0).1 - k then 4 else 2 : Int32) = 1) && _) = (decide ((if 2 < (numF f k (L - k) k 0).1 - k then 4 else 2 : Int32) = 1) && _)
        rw [this _ (by split <;> first | exact Or.inl rfl | exact Or.inr rfl)]; rfl
      · have c3 : digB (f k) = false := by simpa using c3
        rw [tkR_other hk9 hE c2 c3]
        have : ∀ z : Int32, z = 3 ∨ z = 4 → decide (z = 1) = false := by
          rintro z (rfl | rfl) <;> decide
        show (decide ((if f k = 59 then 3 else 4 : Int32) = 1) && _) = (decide ((if f k = 59 then 3 else 4 : Int32) = 1) && _)
        rw [this _ (by split <;> first | exact Or.inl rfl | exact Or.inr rfl)]; rfl
/-- a number's token -/
theorem PO.num {g : CSt} {p : PSt} (h : PO f L g p) : (p.2.2.1 = 2 ∧ numC f g = p.2.2.2.1 ∧ ∃ x, x ≤ 99 ∧ p.2.2.2.1 = nI x) ∨ (¬ p.2.2.1 = 2 ∧ numC f g = -1) := by
  obtain ⟨h1, h2, h3, k0, hk, e1, e2, e3, e4, e5, e6, e7, e8⟩ := h
  by_cases c : p.2.2.1 = 2
  · refine Or.inl ⟨c, ?_⟩
    unfold numC
    rw [e1, ← e6, if_pos c, e3, e2, e7]
    rw [e6] at c
    have hb := runN_ge (p := blankB) (f := f) (n := L - k0) (k := k0)
    generalize hk9 : runN blankB f (L - k0) k0 = k at hb
    by_cases hE : k = L
    · rw [tkR_end hk9 hE] at c
      have c : (0 : Int32) = 2 := c
      exact absurd c (by decide)
    · by_cases c2 : smallB (f k) = true
      · rw [tkR_word hk9 hE c2] at c
        have c : (1 : Int32) = 2 := c
        exact absurd c (by decide)
      · have c2 : smallB (f k) = false := by simpa using c2
        by_cases c3 : digB (f k) = true
        · rw [tkR_num hk9 hE c2 c3] at c ⊢
          have c : (if 2 < (numF f k (L - k) k 0).1 - k then 4 else 2 : Int32) = 2 := c
          have c4 : ¬ 2 < (numF f k (L - k) k 0).1 - k := fun q => by rw [if_pos q] at c; exact absurd c (by decide)
          show nbC f ((numF f k (L - k) k 0).1 - k) k 0 = (numF f k (L - k) k 0).2 ∧ ∃ x, x ≤ 99 ∧ (numF f k (L - k) k 0).2 = nI x
          have hat : (numF f k (L - k) k 0).1 = runN digB f (L - k) k := numF_at
          rw [hat] at c4
          have hnb := numF_nb (f := f) (bg := k) (n := L - k) (k := k) (v := 0) (Nat.le_refl _) (by omega)
          have hge := runN_ge (p := digB) (f := f) (n := L - k) (k := k)
          have hgt : k < runN digB f (L - k) k := by
            rw [runN_step (p := digB) (f := f) (L := L) (k := k) (by omega) c3]
            have := runN_ge (p := digB) (f := f) (n := L - (k + 1)) (k := k + 1)
            omega
          rw [hat, hnb]
          refine ⟨rfl, nb_nat hgt (by omega) (fun j hj1 hj2 => runN_all hj1 hj2)⟩
        · have c3 : digB (f k) = false := by simpa using c3
          rw [tkR_other hk9 hE c2 c3] at c
          have c : (if f k = 59 then 3 else 4 : Int32) = 2 := c
          split at c <;> exact absurd c (by decide)
  · refine Or.inr ⟨c, ?_⟩
    unfold numC
    rw [e1, ← e6, if_neg c]
theorem PO.rgn {g : CSt} {p : PSt} (h : PO f L g p) {lo hi : Int32} (hlo : (0 : Int32) ≤ lo) : rg (numC f g) lo hi = (decide (p.2.2.1 = 2) && rg p.2.2.2.1 lo hi) := by
  rcases h.num with ⟨c, e, -⟩ | ⟨c, e⟩
  · rw [e, decide_eq_true c, Bool.true_and]
  · rw [e, decide_eq_false c, Bool.false_and]
    unfold rg
    rw [decide_eq_false (fun q => absurd (Int32.le_trans hlo q) (by decide))]; rfl
theorem PO.val {g : CSt} {p : PSt} (h : PO f L g p) {lo hi : Int32} (hlo : (0 : Int32) ≤ lo) : numV f lo hi g = numP lo hi p := by
  unfold numV numP
  rw [h.rgn hlo, h.1, h.2.1]
  rcases h.num with ⟨c, e, -⟩ | ⟨c, e⟩
  · rw [e, Bool.not_false, Bool.true_and, Bool.and_true]
  · rw [decide_eq_false c]; rfl
/-- a number taken -/
theorem PO.takN {g : CSt} {p : PSt} (h : PO f L g p) (hL : L ≤ 600) (hf : ∀ k, k < L → f' k = f k) {lo hi : Nat} (hlo : lo < 2 ^ 19) (hhi : hi < 2 ^ 19) : (PO f L (takN f L (nI lo) (nI hi) g) (numS f' L (nI lo) (nI hi) p) ∧ numV f (nI lo) (nI hi) g = numP (nI lo) (nI hi) p ∧ ∃ x, lo ≤ x ∧ x ≤ hi ∧ numP (nI lo) (nI hi) p = nI x) ∨ PF (takN f L (nI lo) (nI hi) g) (numS f' L (nI lo) (nI hi) p) := by
  have h0 : (0 : Int32) ≤ nI lo := nI_pos' (by omega)
  rcases h.tk hL hf (h.rgn (lo := nI lo) (hi := nI hi) h0) with ⟨hb, h1⟩ | ⟨-, h1⟩
  · refine Or.inl ⟨h1, h.val h0, ?_⟩
    rw [h.rgn h0] at hb
    unfold numP
    rw [hb, h.2.1, if_pos (by decide)]
    rw [Bool.and_eq_true, decide_eq_true_eq] at hb
    rcases h.num with ⟨-, -, x, hx, e⟩ | ⟨c, -⟩
    · have hr := hb.2
      unfold rg at hr
      rw [e, Bool.and_eq_true, decide_eq_true_eq, decide_eq_true_eq] at hr
      exact ⟨x, (nI_leI (by omega) (by omega)).mp hr.1, (nI_leI (by omega) (by omega)).mp hr.2, e⟩
    · exact absurd hb.1 c
  · exact Or.inr h1
theorem PO.takW {g : CSt} {p : PSt} (h : PO f L g p) (hL : L ≤ 600) (hf : ∀ k, k < L → f' k = f k) {i : Nat} {W : Int64} (hi : i < 9) (hi0 : 0 < i) (hW : W = Int64.ofNat (litW i)) : PO f L (takW f L i g) (tkW f' L W p) ∨ PF (takW f L i g) (tkW f' L W p) := by
  rcases h.tk hL hf (h.word hi hi0 hW) with ⟨-, h1⟩ | ⟨-, h1⟩
  · exact Or.inl h1
  · exact Or.inr h1
theorem PO.takS {g : CSt} {p : PSt} (h : PO f L g p) (hL : L ≤ 600) (hf : ∀ k, k < L → f' k = f k) : PO f L (takS f L g) (tkK f' L 3 p) ∨ PF (takS f L g) (tkK f' L 3 p) := by
  have e : decide (g.1 = 3) = kindB p 3 := by unfold kindB; rw [h.kind]
  rcases h.tk hL hf e with ⟨-, h1⟩ | ⟨-, h1⟩
  · exact Or.inl h1
  · exact Or.inr h1
theorem PO.sort {g : CSt} {p : PSt} (h : PO f L g p) : sortC f g = sortP p ∧ (sortP p = -1 ∨ ∃ q, q < 4 ∧ sortP p = nI q) := by
  have e5 := h.word (i := 5) (W := 3957503) (by decide) (by decide) (by decide)
  have e6 := h.word (i := 6) (W := 3967636) (by decide) (by decide) (by decide)
  have e7 := h.word (i := 7) (W := 400334) (by decide) (by decide) (by decide)
  have e8 := h.word (i := 8) (W := 118913) (by decide) (by decide) (by decide)
  unfold sortC sortP
  rw [e5, e6, e7, e8]
  refine ⟨rfl, ?_⟩
  split
  · exact Or.inr ⟨0, by decide, rfl⟩
  · split
    · exact Or.inr ⟨1, by decide, rfl⟩
    · split
      · exact Or.inr ⟨2, by decide, rfl⟩
      · split
        · exact Or.inr ⟨3, by decide, rfl⟩
        · exact Or.inl rfl
end PP
/-! reading a text, both sides: the moon and the clouds -/
section MC
variable {f f' : Nat → Int32} {L : Nat}
theorem moon_R {o : Nat → Nat → Int32} {g : CSt} {p : PSt} (h : PO f L g p) (hL : L ≤ 600) (hf : ∀ k, k < L → f' k = f k) : PF (moonC f L (o, g)).2 (tx5 f' L p) ∨ (PO f L (moonC f L (o, g)).2 (tx5 f' L p) ∧ numV f 1 14 (moon1 f L g) = numP 1 14 (tx1 f' L p) ∧ numV f 0 13 (moon2 f L g) = numP 0 13 (tx2 f' L p) ∧ numV f 0 7 (moon3 f L g) = numP 0 7 (tx3 f' L p)) := by
  show PF (takS f L (moon4 f L g)) (tkK f' L 3 (tx4 f' L p)) ∨ (PO f L (takS f L (moon4 f L g)) (tkK f' L 3 (tx4 f' L p)) ∧ _)
  rcases h.takW hL hf (i := 1) (W := 267233) (by decide) (by decide) (by decide) with h1 | h1
  · rcases h1.takN hL hf (lo := 1) (hi := 14) (by decide) (by decide) with ⟨h2, v2, -⟩ | h2
    · rcases h2.takN hL hf (lo := 0) (hi := 13) (by decide) (by decide) with ⟨h3, v3, -⟩ | h3
      · rcases h3.takN hL hf (lo := 0) (hi := 7) (by decide) (by decide) with ⟨h4, v4, -⟩ | h4
        · rcases h4.takS hL hf with h5 | h5
          · exact Or.inr ⟨h5, v2, v3, v4⟩
          · exact Or.inl h5
        · exact Or.inl (h4.tk _ _)
      · exact Or.inl ((h3.tk _ _).tk _ _)
    · exact Or.inl (((h2.tk _ _).tk _ _).tk _ _)
  · exact Or.inl ((((h1.tk _ _).tk _ _).tk _ _).tk _ _)
/-- the draft while clouds are read -/
def CI (o : Nat → Nat → Int32) (r : Nat → Int32) (C : Nat) : Prop :=
  (o 0 7 = 0 ∧ o 0 5 = 0 ∧ o 0 4 = nI C ∧ o 0 0 = 0 ∧ o 0 6 = 0 ∧ ∀ i, i < 4 → o 0 i = r i) ∧ (r 0 = 0 ∧ r 4 = nI C ∧ r 5 = 0 ∧ r 6 = 0 ∧ r 7 = 0 ∧ r 8 = 0) ∧ ∀ j, j < C → o 1 j = r (9 + j) ∧ ∃ z, z ≤ 9 ∧ r (9 + j) = nI z
theorem CI.add {o : Nat → Nat → Int32} {r : Nat → Int32} {C x : Nat} (h : CI o r C) (hx : x ≤ 9) : CI (addCl o C (nI x)) (rAddsCloud r C (nI x)) (C + 1) := by
  obtain ⟨⟨h1, h2, h3, h4, h5, h6⟩, ⟨r0, r4, r5, r6, r7, r8⟩, h7⟩ := h
  have ne : ∀ a, a ≠ 4 → a < 9 → rAddsCloud r C (nI x) a = r a := fun a h1 h2 => by unfold rAddsCloud; rw [va_up_ne _ _ h1, va_up_ne _ _ (by omega)]
  have e4 : rAddsCloud r C (nI x) 4 = nI (C + 1) := by
    unfold rAddsCloud
    rw [va_up_at, va_up_ne _ _ (by omega), r4]; exact nI_1 C
  refine ⟨⟨(addCl_0 (by decide)).trans h1, (addCl_0 (by decide)).trans h2, ?_, (addCl_0 (by decide)).trans h4, (addCl_0 (by decide)).trans h5, fun i hi => ?_⟩, ⟨(ne 0 (by decide) (by decide)).trans r0, e4, (ne 5 (by decide) (by decide)).trans r5, (ne 6 (by decide) (by decide)).trans r6, (ne 7 (by decide) (by decide)).trans r7, (ne 8 (by decide) (by decide)).trans r8⟩, fun j hj => ?_⟩
  · show va_up (o 0) 4 (nI (C + 1)) 4 = nI (C + 1)
    exact va_up_at _ _ _
  · rw [addCl_0 (by omega), ne i (by omega) (by omega)]; exact h6 i hi
  · have e9 : rAddsCloud r C (nI x) (9 + j) = va_up r (9 + C) (nI x) (9 + j) := va_up_ne _ _ (by omega)
    rw [e9]
    show va_up (o 1) C (nI x) j = va_up r (9 + C) (nI x) (9 + j) ∧ _
    by_cases e : j = C
    · subst e
      rw [va_up_at, va_up_at]
      exact ⟨rfl, x, hx, rfl⟩
    · rw [va_up_ne _ _ e, va_up_ne _ _ (by omega)]
      exact h7 j (by omega)
theorem CI.nv {o : Nat → Nat → Int32} {r : Nat → Int32} {C : Nat} (h : CI o r C) (h0 : 0 < C) (h10 : C ≤ 10) : NV o r 0 0 C 0 := by
  obtain ⟨⟨h1, h2, h3, h4, h5, h6⟩, ⟨r0, r4, r5, r6, r7, r8⟩, h7⟩ := h
  have nj : ∀ {P : Nat → Prop} j, j < 0 → P j := fun j hj => absurd hj (Nat.not_lt_zero _)
  exact ⟨⟨h1, by omega, h2, by omega, h3, h0, h10, h4, by decide, nj⟩, ⟨r6, by omega, r5, by omega, r4, h0, h10, r0, by decide, nj, nj⟩,
    ⟨h6, h5.trans r7.symm, fun j hj => (h7 j hj).1, nj, nj, nj⟩, ⟨nj, nj, r8, nj, nj, nj, nj⟩, fun j hj => (h7 j hj).2⟩
/-- one cloud -/
theorem cloud_R {o : Nat → Nat → Int32} {r : Nat → Int32} {C : Nat} {g : CSt} {p : PSt} (h : PO f L g p) (hL : L ≤ 600) (hf : ∀ k, k < L → f' k = f k) (hC : C < 10) (hI : CI o r C) :
    (PO f L (cl1 f L C (o, g)).2 (cloudR f' L (C, r, p)).2.2 ∧ CI (cl1 f L C (o, g)).1 (cloudR f' L (C, r, p)).2.1 (C + 1) ∧ (cloudR f' L (C, r, p)).1 = C + 1) ∨ PF (cl1 f L C (o, g)).2 (cloudR f' L (C, r, p)).2.2 := by
  have e2 : (cloudR f' L (C, r, p)).2.2 = takesP f' L (cloudB (C, r, p)) p := by unfold cloudR; split <;> rfl
  have eb : rg (numC f g) 0 9 = cloudB (C, r, p) := by
    rw [h.rgn (lo := 0) (hi := 9) (by decide)]
    show _ = ((decide (p.2.2.1 = 2) && decide (p.2.2.2.1 ≤ 9)) && decide (C < 10))
    rw [decide_eq_true hC, Bool.and_true]
    rcases h.num with ⟨c, -, x, hx, e⟩ | ⟨c, -⟩
    · unfold rg
      rw [e, decide_eq_true (nI_pos' (n := x) (by omega)), Bool.true_and]
    · rw [decide_eq_false c]; rfl
  rw [e2]
  rcases h.tk hL hf eb with ⟨hb, h1⟩ | ⟨hb, h1⟩
  · refine Or.inl ⟨h1, ?_, ?_⟩
    · have hb2 := hb
      rw [h.rgn (lo := 0) (hi := 9) (by decide)] at hb2
      rw [Bool.and_eq_true, decide_eq_true_eq] at hb2
      rcases h.num with ⟨c, -, x, hx, e⟩ | ⟨c, -⟩
      · have hr := hb2.2
        unfold rg at hr
        rw [e, Bool.and_eq_true, decide_eq_true_eq, decide_eq_true_eq] at hr
        have hx9 : x ≤ 9 := (nI_leI (a := x) (b := 9) (by omega) (by omega)).mp hr.2
        have ev : numV f 0 9 g = nI x := by
          rw [h.val (lo := 0) (hi := 9) (by decide)]
          unfold numP
          rw [decide_eq_true hb2.1, hb2.2, h.2.1, if_pos (by decide), e]
        have ec : (cloudR f' L (C, r, p)).2.1 = rAddsCloud r C (nI x) := by
          unfold cloudR
          rw [← eb, hb, if_pos (by show (true && !p.2.2.2.2.2.1) = true; rw [h.2.1]; rfl)]
          show rAddsCloud r C p.2.2.2.1 = _
          rw [e]
        rw [ec]
        show CI (addCl o C (numV f 0 9 g)) _ _
        rw [ev]
        exact hI.add hx9
      · exact absurd hb2.1 c
    · unfold cloudR
      rw [← eb, hb, if_pos (by show (true && !p.2.2.2.2.2.1) = true; rw [h.2.1]; rfl)]
  · exact Or.inr h1
theorem clL_wrong {n C : Nat} {s : DSt} (h : s.2.2.2.2.1 = true) : clL f L n C s = (C, s) := by
  cases n with
  | zero => rfl
  | succ n =>
    show (if clB s then _ else _) = _
    rw [if_neg (by unfold clB; rw [h]; simp)]
theorem while_wrong {c : RSt → Bool} {k : RSt → RSt} {n : Nat} {s : RSt} (h : c s = false) : whileN c k n s = s := whileN_done h
theorem condC_t {C : Nat} {r : Nat → Int32} {p : PSt} (h1 : p.2.2.2.2.2.1 = false) (h2 : p.2.2.1 = 2) : condC (C, r, p) = true := by
  show (!p.2.2.2.2.2.1 && decide (p.2.2.1 = 2)) = true
  rw [h1, decide_eq_true h2]; rfl
theorem condC_f {C : Nat} {r : Nat → Int32} {p : PSt} (h2 : ¬ p.2.2.1 = 2) : condC (C, r, p) = false := by
  show (!p.2.2.2.2.2.1 && decide (p.2.2.1 = 2)) = false
  rw [decide_eq_false h2, Bool.and_false]
theorem condC_w {s : RSt} (h : s.2.2.2.2.2.2.2.1 = true) : condC s = false := by
  unfold condC; rw [h]; rfl
theorem clouds_R (hL : L ≤ 600) (hf : ∀ k, k < L → f' k = f k) : ∀ (n C m : Nat) (o : Nat → Nat → Int32) (r : Nat → Int32) (g : CSt) (p : PSt), n + C = 10 → n + 2 ≤ m → 0 < C → PO f L g p → CI o r C →
    PF (takS f L (clL f L n C (o, g)).2.2) (tkK f' L 3 (whileN condC (cloudR f' L) m (C, r, p)).2.2) ∨
    (PO f L (takS f L (clL f L n C (o, g)).2.2) (tkK f' L 3 (whileN condC (cloudR f' L) m (C, r, p)).2.2) ∧ NV (clL f L n C (o, g)).2.1 (whileN condC (cloudR f' L) m (C, r, p)).2.1 0 0 (clL f L n C (o, g)).1 0) := by
  intro n
  induction n with
  | zero =>
    intro C m o r g p hn hm h0 h hI
    obtain ⟨m', rfl⟩ : ∃ m', m = m' + 1 := ⟨m - 1, by omega⟩
    show PF (takS f L g) _ ∨ (PO f L (takS f L g) _ ∧ NV o _ 0 0 C 0)
    by_cases c : p.2.2.1 = 2
    · have eB : cloudR f' L (C, r, p) = (C, r, failP p) := by
        have eb : cloudB (C, r, p) = false := by
          show ((decide (p.2.2.1 = 2) && decide (p.2.2.2.1 ≤ 9)) && decide (C < 10)) = false
          rw [decide_eq_false (show ¬ C < 10 by omega), Bool.and_false]
        unfold cloudR
        rw [eb, if_neg (by simp)]
        show (C, r, takesP f' L false p) = _
        rw [takesP_f h.2.1 rfl]
      rw [whileN_step (by omega) (condC_t h.2.1 c), eB, whileN_done (condC_w (s := (C, r, failP p)) rfl)]
      rcases h.tk (b := false) (b' := false) hL hf rfl with ⟨hb, -⟩ | ⟨-, h1⟩
      · cases hb
      · refine Or.inl ?_
        have e3 : decide (g.1 = 3) = false := by rw [h.kind, c]; decide
        have h2 := h1.tk (f := f) (f' := f') (L := L) false (kindB (failP p) 3)
        rw [takesP_f h.2.1 rfl] at h1
        show PF (tkC f L (decide (g.1 = 3)) g) (takesP f' L (kindB (failP p) 3) (failP p))
        rw [e3, takesP_w h1.2.1]
        exact h1
    · rw [whileN_done (condC_f c)]
      rcases h.takS hL hf with h1 | h1
      · exact Or.inr ⟨h1, hI.nv h0 (by omega)⟩
      · exact Or.inl h1
  | succ n ih =>
    intro C m o r g p hn hm h0 h hI
    obtain ⟨m', rfl⟩ : ∃ m', m = m' + 1 := ⟨m - 1, by omega⟩
    by_cases c : p.2.2.1 = 2
    · have ec : clB (o, g) = true := by
        show (!g.2.2.2.1 && decide (g.1 = 2)) = true
        rw [h.1, h.kind, decide_eq_true c]; rfl
      have eA : clL f L (n + 1) C (o, g) = clL f L n (C + 1) (cl1 f L C (o, g)) := by
        show (if clB (o, g) then _ else _) = _
        rw [if_pos ec]
      rw [eA, whileN_step (by omega) (condC_t h.2.1 c)]
      rcases cloud_R h hL hf (show C < 10 by omega) hI with ⟨h1, h2, h3⟩ | h1
      · have eR : cloudR f' L (C, r, p) = (C + 1, (cloudR f' L (C, r, p)).2.1, (cloudR f' L (C, r, p)).2.2) := by rw [← h3]
        rw [eR]
        exact ih (C + 1) m' _ _ _ _ (by omega) (by omega) (by omega) h1 h2
      · rw [clL_wrong h1.1, whileN_done (condC_w h1.2.1)]
        exact Or.inl (h1.tk _ _)
    · have ec : clB (o, g) = false := by
        show (!g.2.2.2.1 && decide (g.1 = 2)) = false
        rw [h.kind, decide_eq_false c, Bool.and_false]
      have eA : clL f L (n + 1) C (o, g) = (C, (o, g)) := by
        show (if clB (o, g) then _ else _) = _
        rw [ec]; rfl
      rw [eA, whileN_done (condC_f c)]
      rcases h.takS hL hf with h1 | h1
      · exact Or.inr ⟨h1, hI.nv h0 (by omega)⟩
      · exact Or.inl h1
theorem cloudsC_R {o : Nat → Nat → Int32} {r : Nat → Int32} {g : CSt} {p : PSt} (h : PO f L g p) (hL : L ≤ 600) (hf : ∀ k, k < L → f' k = f k) (hI : CI o r 0) :
    PF (cloudsC f L (o, g)).2.2 (tkK f' L 3 (whileN condC (cloudR f' L) 13 (cloudR f' L (0, r, tkW f' L 49734694 p))).2.2) ∨
    (PO f L (cloudsC f L (o, g)).2.2 (tkK f' L 3 (whileN condC (cloudR f' L) 13 (cloudR f' L (0, r, tkW f' L 49734694 p))).2.2) ∧ NV (cloudsC f L (o, g)).2.1 (whileN condC (cloudR f' L) 13 (cloudR f' L (0, r, tkW f' L 49734694 p))).2.1 0 0 (cloudsC f L (o, g)).1 0) := by
  unfold cloudsC
  dsimp only
  have bad : ∀ s : DSt, ∀ q : RSt, PF s.2 q.2.2 → PF (takS f L (clL f L 9 1 s).2.2) (tkK f' L 3 (whileN condC (cloudR f' L) 13 q).2.2) := by
    intro s q hq
    rw [clL_wrong hq.1, whileN_done (condC_w hq.2.1)]
    exact hq.tk _ _
  rcases h.takW hL hf (i := 2) (W := 49734694) (by decide) (by decide) (by decide) with h1 | h1
  · rcases cloud_R h1 hL hf (show 0 < 10 by decide) hI with ⟨h2, h3, h4⟩ | h2
    · have eR : cloudR f' L (0, r, tkW f' L 49734694 p) = (1, (cloudR f' L (0, r, tkW f' L 49734694 p)).2.1, (cloudR f' L (0, r, tkW f' L 49734694 p)).2.2) := by
        have := h4
        rw [Nat.zero_add] at this
        rw [← this]
      rw [eR]
      exact clouds_R hL hf 9 1 13 _ _ _ _ (by decide) (by decide) (by decide) h2 h3
    · exact Or.inl (bad _ _ h2)
  · refine Or.inl (bad _ _ ?_)
    have e2 : (cloudR f' L (0, r, tkW f' L 49734694 p)).2.2 = takesP f' L (cloudB (0, r, tkW f' L 49734694 p)) (tkW f' L 49734694 p) := by unfold cloudR; split <;> rfl
    rw [e2]
    exact h1.tk _ _
end MC
