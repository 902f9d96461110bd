/-! reading a text, both sides: clerks and complaints -/
section CKR
variable {f f' : Nat → Int32} {L : Nat}
theorem clerk_R {o : Nat → Nat → Int32} {r : Nat → Int32} {K C : Nat} {g : CSt} {p : PSt} (h : PO f L g p) (hL : L ≤ 600) (hf : ∀ k, k < L → f' k = f k) (hw : wordC f 3 g = true) (hK : K < 5) (hn : NV o r 0 K C 0) :
    (PO f L (ckA f L K (o, g)).2 (clerkR f' L (K, r, p)).2.2 ∧ NV (ckA f L K (o, g)).1 (clerkR f' L (K, r, p)).2.1 0 (K + 1) C 0 ∧ (clerkR f' L (K, r, p)).1 = K + 1) ∨ PF (ckA f L K (o, g)).2 (clerkR f' L (K, r, p)).2.2 := by
  have e2 : (clerkR f' L (K, r, p)).2.2 = tkK f' L 3 (clerk3 f' L (K, r, p)) := by unfold clerkR; split <;> rfl
  rw [e2]
  show (PO f L (takS f L (ck3 f L g)) _ ∧ _) ∨ PF (takS f L (ck3 f L g)) _
  rcases h.tk (b := wordC f 3 g) (b' := decide (K < 5)) hL hf (by rw [hw, decide_eq_true hK]) with ⟨-, h1⟩ | ⟨hb, -⟩
  · have h1 : PO f L (ck1 f L g) (clerk1 f' L (K, r, p)) := h1
    rcases h1.takN hL hf (lo := 1) (hi := 9) (by decide) (by decide) with ⟨h2, v2, S, hS1, hS2, w2⟩ | h2
    · have h2 : PO f L (ck2 f L g) (clerk2 f' L (K, r, p)) := h2
      rcases h2.takN hL hf (lo := 0) (hi := 99) (by decide) (by decide) with ⟨h3, v3, x, hx1, hx2, w3⟩ | h3
      · have h3 : PO f L (ck3 f L g) (clerk3 f' L (K, r, p)) := h3
        rcases h3.takS hL hf with h4 | h4
        · refine Or.inl ⟨h4, ?_, clerkR_ok (by rw [e2]; exact h4.2.1)⟩
          have hok := takesP_ok (f := f') (L := L) (z := kindB (clerk3 f' L (K, r, p)) 3) (p := clerk3 f' L (K, r, p)) h4.2.1
          have er : (clerkR f' L (K, r, p)).2.1 = rAddsClerk r K (nI S) (nI x) := by
            unfold clerkR
            rw [if_pos (by rw [hok.1, hok.2]; rfl)]
            show rAddsClerk r K (numP 1 9 (clerk1 f' L (K, r, p))) (numP 0 99 (clerk2 f' L (K, r, p))) = _
            rw [show numP 1 9 (clerk1 f' L (K, r, p)) = nI S from w2, show numP 0 99 (clerk2 f' L (K, r, p)) = nI x from w3]
          rw [er]
          show NV (staffAdd o K (numV f 1 9 (ck1 f L g)) (numV f 0 99 (ck2 f L g))) _ 0 (K + 1) C 0
          rw [show numV f 1 9 (ck1 f L g) = nI S from v2.trans w2, show numV f 0 99 (ck2 f L g) = nI x from v3.trans w3]
          exact hn.clerk hK hS2 hx2
        · exact Or.inr h4
      · exact Or.inr (PF.tk h3 _ _)
    · exact Or.inr ((PF.tk h2 _ _).tk _ _)
  · rw [hw] at hb; cases hb
/-- the class has not failed yet, the reference has: a clerk or a complaint too many -/
def PX (g : CSt) (p : PSt) : Prop := g.2.2.2.1 = false ∧ ¬ g.1 = 0 ∧ p.2.2.2.2.2.1 = true ∧ p.2.2.2.2.2.2 = nI g.2.1 ∧ g.2.1 < 2 ^ 31
theorem ckL_wrong {n K : Nat} {s : DSt} (h : s.2.2.2.2.1 = true) : ckL f L n K s = (K, s) := by
  cases n with
  | zero => rfl
  | succ n =>
    show (if ckB f 3 s then _ else _) = _
    rw [if_neg (by unfold ckB; rw [h]; simp)]
theorem coL_no {n N : Nat} {s : DSt} (h : ckB f 4 s = false) : coL f L n N s = (N, s) := by
  cases n with
  | zero => rfl
  | succ n =>
    show (if ckB f 4 s then _ else _) = _
    rw [if_neg (by rw [h]; simp)]
theorem condK_is {K : Nat} {r : Nat → Int32} {g : CSt} {p : PSt} (h : PO f L g p) : condK (K, r, p) = wordC f 3 g := by
  show (!p.2.2.2.2.2.1 && wordB p 1834661) = _
  rw [h.2.1, h.word (i := 3) (W := 1834661) (by decide) (by decide) (by decide)]; rfl
theorem condN_is {K : Nat} {r : Nat → Int32} {g : CSt} {p : PSt} (h : PO f L g p) : condN (K, r, p) = wordC f 4 g := by
  show (!p.2.2.2.2.2.1 && wordB p 1009466360291) = _
  rw [h.2.1, h.word (i := 4) (W := 1009466360291) (by decide) (by decide) (by decide)]; rfl
theorem condK_w {s : RSt} (h : s.2.2.2.2.2.2.2.1 = true) : condK s = false := by
  unfold condK; rw [h]; rfl
theorem condN_w {s : RSt} (h : s.2.2.2.2.2.2.2.1 = true) : condN s = false := by
  unfold condN; rw [h]; rfl
theorem ckB_is {i : Nat} {o : Nat → Nat → Int32} {g : CSt} {p : PSt} (h : PO f L g p) : ckB f i (o, g) = wordC f i g := by
  show (!g.2.2.2.1 && wordC f i g) = _
  rw [h.1]; rfl
theorem word_k {i : Nat} {g : CSt} (h : wordC f i g = true) : g.1 = 1 ∧ g.2.2.1 - g.2.1 = litN i := by
  unfold wordC at h
  rw [Bool.and_eq_true, Bool.and_eq_true, decide_eq_true_eq, decide_eq_true_eq] at h
  exact ⟨h.1, h.2.1⟩
theorem clks_R {C : Nat} (hL : L ≤ 600) (hf : ∀ k, k < L → f' k = f k) : ∀ (n K m : Nat) (o : Nat → Nat → Int32) (r : Nat → Int32) (g : CSt) (p : PSt), n + K = 5 → n + 2 ≤ m → PO f L g p → NV o r 0 K C 0 →
    PF (ckL f L n K (o, g)).2.2 (whileN condK (clerkR f' L) m (K, r, p)).2.2 ∨
    (PO f L (ckL f L n K (o, g)).2.2 (whileN condK (clerkR f' L) m (K, r, p)).2.2 ∧ NV (ckL f L n K (o, g)).2.1 (whileN condK (clerkR f' L) m (K, r, p)).2.1 0 (ckL f L n K (o, g)).1 C 0) ∨
    (PX (ckL f L n K (o, g)).2.2 (whileN condK (clerkR f' L) m (K, r, p)).2.2 ∧ wordC f 4 (ckL f L n K (o, g)).2.2 = false) := by
  intro n
  induction n with
  | zero =>
    intro K m o r g p hn hm h hv
    obtain ⟨m', rfl⟩ : ∃ m', m = m' + 1 := ⟨m - 1, by omega⟩
    show PF g _ ∨ (PO f L g _ ∧ NV o _ 0 K C 0) ∨ (PX g _ ∧ wordC f 4 g = false)
    cases c : wordC f 3 g with
    | true =>
      have e1 : clerk1 f' L (K, r, p) = failP p := by
        show takesP f' L (decide (K < 5)) p = failP p
        rw [decide_eq_false (by omega), takesP_f h.2.1 rfl]
      have e2 : (clerkR f' L (K, r, p)).2.2 = failP p := by
        have : (clerkR f' L (K, r, p)).2.2 = takesP f' L (kindB (clerk3 f' L (K, r, p)) 3) (clerk3 f' L (K, r, p)) := by unfold clerkR; split <;> rfl
        rw [this]
        have e3 : clerk3 f' L (K, r, p) = failP p := by
          unfold clerk3 clerk2 numS
          rw [e1, takesP_w (p := failP p) rfl, takesP_w (p := failP p) rfl]
        rw [e3, takesP_w (p := failP p) rfl]
      rw [whileN_step (by omega) (by rw [condK_is h]; exact c), whileN_done (condK_w (by rw [e2]; rfl)), e2]
      refine Or.inr (Or.inr ⟨⟨h.1, ?_, rfl, ?_, h.lt hL⟩, ?_⟩)
      · rw [(word_k c).1]; decide
      · exact h.start
      · have := (word_k c).2
        unfold wordC
        rw [this, show decide (litN 3 = litN 4) = false from by decide]
        simp
    | false =>
      rw [whileN_done (by rw [condK_is h]; exact c)]
      exact Or.inr (Or.inl ⟨h, hv⟩)
  | succ n ih =>
    intro K m o r g p hn hm h hv
    obtain ⟨m', rfl⟩ : ∃ m', m = m' + 1 := ⟨m - 1, by omega⟩
    cases c : wordC f 3 g with
    | true =>
      have eA : ckL f L (n + 1) K (o, g) = ckL f L n (K + 1) (ckA f L K (o, g)) := by
        show (if ckB f 3 (o, g) then _ else _) = _
        rw [if_pos (by rw [ckB_is h]; exact c)]
      rw [eA, whileN_step (by omega) (by rw [condK_is h]; exact c)]
      rcases clerk_R h hL hf c (show K < 5 by omega) hv with ⟨h1, h2, h3⟩ | h1
      · have eR : clerkR f' L (K, r, p) = (K + 1, (clerkR f' L (K, r, p)).2.1, (clerkR f' L (K, r, p)).2.2) := by rw [← h3]
        rw [eR]
        exact ih (K + 1) m' _ _ _ _ (by omega) (by omega) h1 h2
      · rw [ckL_wrong h1.1, whileN_done (condK_w h1.2.1)]
        exact Or.inl h1
    | false =>
      have eA : ckL f L (n + 1) K (o, g) = (K, (o, g)) := by
        show (if ckB f 3 (o, g) then _ else _) = _
        rw [ckB_is h, c]; rfl
      rw [eA, whileN_done (by rw [condK_is h]; exact c)]
      exact Or.inr (Or.inl ⟨h, hv⟩)
theorem compl_R {o : Nat → Nat → Int32} {r : Nat → Int32} {N K C : Nat} {g : CSt} {p : PSt} (h : PO f L g p) (hL : L ≤ 600) (hf : ∀ k, k < L → f' k = f k) (hw : wordC f 4 g = true) (hN : N < 24) (hn : NV o r N K C 0) :
    (PO f L (coA f L N (o, g)).2 (compR f' L (N, r, p)).2.2 ∧ NV (coA f L N (o, g)).1 (compR f' L (N, r, p)).2.1 (N + 1) K C 0 ∧ (compR f' L (N, r, p)).1 = N + 1) ∨ PF (coA f L N (o, g)).2 (compR f' L (N, r, p)).2.2 := by
  have e2 : (compR f' L (N, r, p)).2.2 = tkK f' L 3 (comp4 f' L (N, r, p)) := by unfold compR; split <;> rfl
  rw [e2]
  show (PO f L (takS f L (co4 f L N (o, g))) _ ∧ _) ∨ PF (takS f L (co4 f L N (o, g))) _
  rcases h.tk (b := wordC f 4 g) (b' := decide (N < 24)) hL hf (by rw [hw, decide_eq_true hN]) with ⟨-, h1⟩ | ⟨hb, -⟩
  · have h1 : PO f L (co1 f L g) (comp1 f' L (N, r, p)) := h1
    rcases h1.takN hL hf (lo := 0) (hi := 99) (by decide) (by decide) with ⟨h2, v2, x, hx1, hx2, w2⟩ | h2
    · have h2 : PO f L (co2 f L g) (comp2 f' L (N, r, p)) := h2
      have v2 : numV f 0 99 (co1 f L g) = numP 0 99 (comp1 f' L (N, r, p)) := v2
      obtain ⟨es, hs⟩ := h2.sort
      have eb : srtB f o (numV f 0 99 (co1 f L g)) N (co2 f L g) = compB f' L (N, r, p) := by
        unfold srtB compB
        rw [es, v2, findC_R hn.ro]
        rcases hs with e | ⟨q, hq, e⟩
        · rw [e]; rfl
        · rw [e, decide_eq_false (fun z => nI_nm1 (by omega) z.symm), decide_eq_true (nI_pos' (n := q) (by omega))]; rfl
      rcases h2.tk hL hf eb with ⟨hbt, h3⟩ | ⟨-, h3⟩
      · have h3 : PO f L (co3 f L N (o, g)) (comp3 f' L (N, r, p)) := h3
        rcases h3.takN hL hf (lo := 1) (hi := 9) (by decide) (by decide) with ⟨h4, v4, z, hz1, hz2, w4⟩ | h4
        · have h4 : PO f L (co4 f L N (o, g)) (comp4 f' L (N, r, p)) := h4
          rcases h4.takS hL hf with h5 | h5
          · refine Or.inl ⟨h5, ?_, compR_ok (by rw [e2]; exact h5.2.1)⟩
            have hok := takesP_ok (f := f') (L := L) (z := kindB (comp4 f' L (N, r, p)) 3) (p := comp4 f' L (N, r, p)) h5.2.1
            obtain ⟨q, hq, eq⟩ : ∃ q, q < 4 ∧ sortP (comp2 f' L (N, r, p)) = nI q := by
              rcases hs with e | e
              · rw [eb] at hbt
                unfold compB at hbt
                rw [e] at hbt
                exact absurd hbt (by simp)
              · exact e
            have er : (compR f' L (N, r, p)).2.1 = rFiles r N (nI x) (nI q) (nI z) := by
              unfold compR
              rw [if_pos (by rw [hok.1, hok.2]; rfl)]
              show rFiles r N (numP 0 99 (comp1 f' L (N, r, p))) (sortP (comp2 f' L (N, r, p))) (numP 1 9 (comp3 f' L (N, r, p))) = _
              rw [show numP 0 99 (comp1 f' L (N, r, p)) = nI x from w2, eq, show numP 1 9 (comp3 f' L (N, r, p)) = nI z from w4]
            rw [er]
            show NV (pileAdd o N (numV f 0 99 (co1 f L g)) (sortV f o (numV f 0 99 (co1 f L g)) N (co2 f L g)) (numV f 1 9 (co3 f L N (o, g))) 0) _ (N + 1) K C 0
            have ev : sortV f o (numV f 0 99 (co1 f L g)) N (co2 f L g) = nI q := by
              unfold sortV
              rw [h2.1, hbt, es, eq]; rfl
            have e0 : o 0 0 = 0 := hn.o0.trans nI_0
            rw [ev, v2, show numP 0 99 (comp1 f' L (N, r, p)) = nI x from w2, show numV f 1 9 (co3 f L N (o, g)) = nI z from v4.trans w4, ← e0]
            exact hn.file hN hq (by omega) hz2
          · exact Or.inr h5
        · exact Or.inr (PF.tk h4 _ _)
      · exact Or.inr ((PF.tk h3 _ _).tk _ _)
    · exact Or.inr (((PF.tk h2 _ _).tk _ _).tk _ _)
  · rw [hw] at hb; cases hb
theorem coL_wrong {n N : Nat} {s : DSt} (h : s.2.2.2.2.1 = true) : coL f L n N s = (N, s) := coL_no (by unfold ckB; rw [h]; rfl)
theorem compls_R {K C : Nat} (hL : L ≤ 600) (hf : ∀ k, k < L → f' k = f k) : ∀ (n N m : Nat) (o : Nat → Nat → Int32) (r : Nat → Int32) (g : CSt) (p : PSt), n + N = 24 → n + 2 ≤ m → PO f L g p → NV o r N K C 0 →
    PF (coL f L n N (o, g)).2.2 (whileN condN (compR f' L) m (N, r, p)).2.2 ∨
    (PO f L (coL f L n N (o, g)).2.2 (whileN condN (compR f' L) m (N, r, p)).2.2 ∧ NV (coL f L n N (o, g)).2.1 (whileN condN (compR f' L) m (N, r, p)).2.1 (coL f L n N (o, g)).1 K C 0) ∨
    PX (coL f L n N (o, g)).2.2 (whileN condN (compR f' L) m (N, r, p)).2.2 := by
  intro n
  induction n with
  | zero =>
    intro N m o r g p hn hm h hv
    obtain ⟨m', rfl⟩ : ∃ m', m = m' + 1 := ⟨m - 1, by omega⟩
    show PF g _ ∨ (PO f L g _ ∧ NV o _ N K C 0) ∨ PX g _
    cases c : wordC f 4 g with
    | true =>
      have e1 : comp1 f' L (N, r, p) = failP p := by
        show takesP f' L (decide (N < 24)) p = failP p
        rw [decide_eq_false (by omega), takesP_f h.2.1 rfl]
      have e2 : (compR f' L (N, r, p)).2.2 = failP p := by
        have : (compR f' L (N, r, p)).2.2 = takesP f' L (kindB (comp4 f' L (N, r, p)) 3) (comp4 f' L (N, r, p)) := by unfold compR; split <;> rfl
        rw [this]
        have e3 : comp4 f' L (N, r, p) = failP p := by
          have q2 : comp2 f' L (N, r, p) = failP p := by
            unfold comp2 numS
            rw [e1, takesP_w (p := failP p) rfl]
          have q3 : comp3 f' L (N, r, p) = failP p := by
            unfold comp3
            rw [q2, takesP_w (p := failP p) rfl]
          unfold comp4 numS
          rw [q3, takesP_w (p := failP p) rfl]
        rw [e3, takesP_w (p := failP p) rfl]
      rw [whileN_step (by omega) (by rw [condN_is h]; exact c), whileN_done (condN_w (by rw [e2]; rfl)), e2]
      refine Or.inr (Or.inr ⟨h.1, ?_, rfl, h.start, h.lt hL⟩)
      rw [(word_k c).1]; decide
    | false =>
      rw [whileN_done (by rw [condN_is h]; exact c)]
      exact Or.inr (Or.inl ⟨h, hv⟩)
  | succ n ih =>
    intro N m o r g p hn hm h hv
    obtain ⟨m', rfl⟩ : ∃ m', m = m' + 1 := ⟨m - 1, by omega⟩
    cases c : wordC f 4 g with
    | true =>
      have eA : coL f L (n + 1) N (o, g) = coL f L n (N + 1) (coA f L N (o, g)) := by
        show (if ckB f 4 (o, g) then _ else _) = _
        rw [if_pos (by rw [ckB_is h]; exact c)]
      rw [eA, whileN_step (by omega) (by rw [condN_is h]; exact c)]
      rcases compl_R h hL hf c (show N < 24 by omega) hv with ⟨h1, h2, h3⟩ | h1
      · have eR : compR f' L (N, r, p) = (N + 1, (compR f' L (N, r, p)).2.1, (compR f' L (N, r, p)).2.2) := by rw [← h3]
        rw [eR]
        exact ih (N + 1) m' _ _ _ _ (by omega) (by omega) h1 h2
      · rw [coL_wrong h1.1, whileN_done (condN_w h1.2.1)]
        exact Or.inl h1
    | false =>
      have eA : coL f L (n + 1) N (o, g) = (N, (o, g)) := by
        show (if ckB f 4 (o, g) then _ else _) = _
        rw [ckB_is h, c]; rfl
      rw [eA, whileN_done (by rw [condN_is h]; exact c)]
      exact Or.inr (Or.inl ⟨h, hv⟩)
/-! reading a text, both sides: the whole -/
theorem end_F {g : CSt} {p : PSt} (h : PF g p) : PF (if g.1 = 0 then g else refC g) (txE p) := by
  rw [txE_w h.2.1, refC_t h.1]
  split <;> exact h
theorem end_O {g : CSt} {p : PSt} (h : PO f L g p) (hL : L ≤ 600) (hf : ∀ k, k < L → f' k = f k) : PF (if g.1 = 0 then g else refC g) (txE p) ∨ PO f L (if g.1 = 0 then g else refC g) (txE p) := by
  by_cases c : g.1 = 0
  · rw [if_pos c, txE_0 (by rw [← h.kind]; exact c)]
    exact Or.inr h
  · rw [if_neg c, txE_t (f := f') (L := L) h.2.1 (by rw [← h.kind]; exact c)]
    rcases h.tk (b := false) (b' := false) hL hf rfl with ⟨hb, -⟩ | ⟨-, h1⟩
    · cases hb
    · rw [tkC_f h.1 rfl] at h1
      exact Or.inl h1
theorem end_X {g : CSt} {p : PSt} (h : PX g p) : PF (if g.1 = 0 then g else refC g) (txE p) := by
  obtain ⟨h1, h2, h3, h4, h5⟩ := h
  rw [if_neg h2, txE_w h3, refC_f h1]
  exact ⟨rfl, h3, h4.symm, g.2.1, h5, h4⟩
theorem moonI_R {o : Nat → Nat → Int32} {d : Nat → Int32} {g : CSt} {p : PSt} (hd : ∀ i, i < 202 → d i = 0) (v1 : numV f 1 14 (moon1 f L g) = numP 1 14 (tx1 f' L p)) (v2 : numV f 0 13 (moon2 f L g) = numP 0 13 (tx2 f' L p)) (v3 : numV f 0 7 (moon3 f L g) = numP 0 7 (tx3 f' L p)) : CI (moonC f L (clearC o, g)).1 (txD f' L d p) 0 := by
  show CI (dS (dS (dS (clearC o) 1 (numV f 1 14 (moon1 f L g))) 2 (numV f 0 13 (moon2 f L g))) 3 (numV f 0 7 (moon3 f L g))) (txD f' L d p) 0
  rw [v1, v2, v3]
  unfold txD
  generalize numP 1 14 (tx1 f' L p) = a
  generalize numP 0 13 (tx2 f' L p) = b
  generalize numP 0 7 (tx3 f' L p) = c
  have c0 : ∀ i, i ≠ 1 → i ≠ 2 → i ≠ 3 → dS (dS (dS (clearC o) 1 a) 2 b) 3 c 0 i = clearC o 0 i := fun i h1 h2 h3 => by rw [dS_0, if_neg h3, dS_0, if_neg h2, dS_0, if_neg h1]
  have cl : clearC o 0 = va_up (va_up (va_up (va_up (va_up (o 0) 0 0) 4 0) 5 0) 6 0) 7 0 := va_up_at _ _ _
  have dd : ∀ i, i ≠ 1 → i ≠ 2 → i ≠ 3 → i < 202 → va_up (va_up (va_up d 1 a) 2 b) 3 c i = 0 := fun i h1 h2 h3 h4 => by rw [va_up_ne _ _ h3, va_up_ne _ _ h2, va_up_ne _ _ h1]; exact hd i h4
  have e0 : clearC o 0 0 = 0 := by rw [cl, va_up_ne _ _ (by decide), va_up_ne _ _ (by decide), va_up_ne _ _ (by decide), va_up_ne _ _ (by decide), va_up_at]
  have e4 : clearC o 0 4 = 0 := by rw [cl, va_up_ne _ _ (by decide), va_up_ne _ _ (by decide), va_up_ne _ _ (by decide), va_up_at]
  have e5 : clearC o 0 5 = 0 := by rw [cl, va_up_ne _ _ (by decide), va_up_ne _ _ (by decide), va_up_at]
  have e6 : clearC o 0 6 = 0 := by rw [cl, va_up_ne _ _ (by decide), va_up_at]
  have e7 : clearC o 0 7 = 0 := by rw [cl, va_up_at]
  refine ⟨⟨(c0 7 (by decide) (by decide) (by decide)).trans e7, (c0 5 (by decide) (by decide) (by decide)).trans e5, ((c0 4 (by decide) (by decide) (by decide)).trans e4).trans nI_0.symm, (c0 0 (by decide) (by decide) (by decide)).trans e0, (c0 6 (by decide) (by decide) (by decide)).trans e6, fun i hi => ?_⟩, ⟨dd 0 (by decide) (by decide) (by decide) (by decide), (dd 4 (by decide) (by decide) (by decide) (by decide)).trans nI_0.symm, dd 5 (by decide) (by decide) (by decide) (by decide), dd 6 (by decide) (by decide) (by decide) (by decide), dd 7 (by decide) (by decide) (by decide) (by decide), dd 8 (by decide) (by decide) (by decide) (by decide)⟩, fun j hj => absurd hj (Nat.not_lt_zero _)⟩
  rcases (by omega : i = 0 ∨ i = 1 ∨ i = 2 ∨ i = 3) with rfl | rfl | rfl | rfl
  · rw [dd 0 (by decide) (by decide) (by decide) (by decide), c0 0 (by decide) (by decide) (by decide), e0]
  · rw [dS_0, if_neg (by decide), dS_0, if_neg (by decide), dS_0, if_pos rfl, va_up_ne _ _ (by decide), va_up_ne _ _ (by decide), va_up_at]
  · rw [dS_0, if_neg (by decide), dS_0, if_pos rfl, va_up_ne _ _ (by decide), va_up_at]
  · rw [dS_0, if_pos rfl, va_up_at]
theorem cloudsBad_R {o1 : Nat → Nat → Int32} {r : Nat → Int32} {g1 : CSt} {p1 : PSt} (h1 : PF g1 p1) : PF (cloudsC f L (o1, g1)).2.2 (tkK f' L 3 (whileN condC (cloudR f' L) 13 (cloudR f' L (0, r, tkW f' L 49734694 p1))).2.2) := by
  have h2 : PF (takW f L 2 g1) (tkW f' L 49734694 p1) := h1.tk _ _
  have ec : (cloudR f' L (0, r, tkW f' L 49734694 p1)).2.2 = takesP f' L (cloudB (0, r, tkW f' L 49734694 p1)) (tkW f' L 49734694 p1) := by unfold cloudR; split <;> rfl
  have h3 : PF (cl1 f L 0 (o1, takW f L 2 g1)).2 (cloudR f' L (0, r, tkW f' L 49734694 p1)).2.2 := by
    rw [ec]; exact h2.tk _ _
  unfold cloudsC
  dsimp only
  rw [clL_wrong h3.1, whileN_done (condC_w h3.2.1)]
  exact h3.tk _ _
theorem rs3_eta (x : Nat × DSt) : x = (x.1, (x.2.1, x.2.2)) := rfl
theorem read_R {o : Nat → Nat → Int32} {d : Nat → Int32} {g : CSt} {p : PSt} (hL : L ≤ 600) (hf : ∀ k, k < L → f' k = f k) (hd : ∀ i, i < 202 → d i = 0) (h : PO f L (rd0 f L g) p) :
    PF (rd5 f L (o, g)) (txR f' L d p).2 ∨ (PO f L (rd5 f L (o, g)) (txR f' L d p).2 ∧ ∃ N K C, NV (rd4 f L (o, g)).2.1 (txR f' L d p).1 N K C 0) := by
  have hm := moon_R (o := clearC o) h hL hf
  have fin : ∀ (N0 : Nat) (o2 : Nat → Nat → Int32) (g2 : CSt) (r2 : Nat → Int32) (p2 : PSt), rd3 f L (o, g) = (N0, (o2, g2)) → (tk1 f' L d p).2.1 = r2 → (tk1 f' L d p).2.2 = p2 →
      (PF g2 p2 ∨ (PO f L g2 p2 ∧ ∃ K C, NV o2 r2 0 K C 0) ∨ (PX g2 p2 ∧ wordC f 4 g2 = false)) →
      PF (rd5 f L (o, g)) (txR f' L d p).2 ∨ (PO f L (rd5 f L (o, g)) (txR f' L d p).2 ∧ ∃ N K C, NV (rd4 f L (o, g)).2.1 (txR f' L d p).1 N K C 0) := by
    intro N0 o2 g2 r2 p2 e1 e2 e3 hh
    have e4 : rd4 f L (o, g) = coL f L 24 0 (o2, g2) := by unfold rd4; rw [e1]
    have e5 : rd5 f L (o, g) = if (coL f L 24 0 (o2, g2)).2.2.1 = 0 then (coL f L 24 0 (o2, g2)).2.2 else refC (coL f L 24 0 (o2, g2)).2.2 := by unfold rd5; rw [e4]
    have e6 : txR f' L d p = ((whileN condN (compR f' L) 26 (0, r2, p2)).2.1, txE (whileN condN (compR f' L) 26 (0, r2, p2)).2.2) := by unfold txR tn1; rw [e2, e3]
    rw [e5, e4, e6]
    dsimp only
    rcases hh with h1 | ⟨h1, K, C, hv⟩ | ⟨h1, hw⟩
    · rw [coL_wrong h1.1, whileN_done (condN_w h1.2.1)]
      exact Or.inl (end_F h1)
    · rcases compls_R hL hf 24 0 26 o2 r2 g2 p2 (by decide) (by decide) h1 hv with h2 | ⟨h2, h3⟩ | h2
      · exact Or.inl (end_F h2)
      · rcases end_O h2 hL hf with h4 | h4
        · exact Or.inl h4
        · exact Or.inr ⟨h4, _, K, C, h3⟩
      · exact Or.inl (end_X h2)
    · rw [coL_no (by unfold ckB; show (!g2.2.2.2.1 && wordC f 4 g2) = false; rw [hw, Bool.and_false]), whileN_done (condN_w h1.2.2.1)]
      exact Or.inl (end_X h1)
  have mid : ∀ (C0 : Nat) (o1 : Nat → Nat → Int32) (g1 : CSt) (r1 : Nat → Int32) (p1 : PSt), rd2 f L (o, g) = (C0, (o1, g1)) → (tc2 f' L d p).2.1 = r1 → tc3 f' L d p = p1 →
      (PF g1 p1 ∨ (PO f L g1 p1 ∧ NV o1 r1 0 0 C0 0)) →
      PF (rd5 f L (o, g)) (txR f' L d p).2 ∨ (PO f L (rd5 f L (o, g)) (txR f' L d p).2 ∧ ∃ N K C, NV (rd4 f L (o, g)).2.1 (txR f' L d p).1 N K C 0) := by
    intro C0 o1 g1 r1 p1 e1 e2 e3 hh
    have e4 : rd3 f L (o, g) = ckL f L 5 0 (o1, g1) := by unfold rd3; rw [e1]
    have e5 : tk1 f' L d p = whileN condK (clerkR f' L) 7 (0, r1, p1) := by unfold tk1; rw [e2, e3]
    refine fin (ckL f L 5 0 (o1, g1)).1 (ckL f L 5 0 (o1, g1)).2.1 (ckL f L 5 0 (o1, g1)).2.2 _ _ (e4.trans (rs3_eta _)) rfl rfl ?_
    rw [e5]
    rcases hh with h1 | ⟨h1, hv⟩
    · rw [ckL_wrong h1.1, whileN_done (condK_w h1.2.1)]
      exact Or.inl h1
    · rcases clks_R hL hf 5 0 7 o1 r1 g1 p1 (by decide) (by decide) h1 hv with h2 | ⟨h2, h3⟩ | h2
      · exact Or.inl h2
      · exact Or.inr (Or.inl ⟨h2, _, _, h3⟩)
      · exact Or.inr (Or.inr h2)
  have e2 : rd2 f L (o, g) = cloudsC f L ((moonC f L (clearC o, rd0 f L g)).1, (moonC f L (clearC o, rd0 f L g)).2) := by unfold rd2 rd1; rw [ds_eta]
  have e3 : tc2 f' L d p = whileN condC (cloudR f' L) 13 (cloudR f' L (0, txD f' L d p, tkW f' L 49734694 (tx5 f' L p))) := by unfold tc2 tc1 tx6; rfl
  have e4 : tc3 f' L d p = tkK f' L 3 (tc2 f' L d p).2.2 := by unfold tc3; rfl
  refine mid (rd2 f L (o, g)).1 (rd2 f L (o, g)).2.1 (rd2 f L (o, g)).2.2 _ _ (rs3_eta _) rfl rfl ?_
  rw [e4, e2, e3]
  rcases hm with h1 | ⟨h1, v1, v2, v3⟩
  · exact Or.inl (cloudsBad_R h1)
  · exact cloudsC_R h1 hL hf (moonI_R hd v1 v2 v3)
end CKR
