/-! the text of a window, read -/
def wMoon : List Nat := [109, 111, 111, 110]
def wClouds : List Nat := [99, 108, 111, 117, 100, 115]
def wClerk : List Nat := [99, 108, 101, 114, 107]
def wCompl : List Nat := [99, 111, 109, 112, 108, 97, 105, 110, 116]
theorem jL0 : jL 0 = wMoon ++ [32] := rfl
theorem jL1 : jL 1 = 59 :: wClouds := rfl
theorem jL2 : jL 2 = wClerk ++ [32] := rfl
theorem jL7 : jL 7 = wCompl ++ [32] := rfl
theorem TX_eq (d1 d2 d3 : Nat) (cl : List Nat) (ck : List (Nat × Nat)) (cp : List (Nat × Nat × Nat)) : TX d1 d2 d3 cl ck cp = wMoon ++ ([32] ++ (dgL d1 ++ ([32] ++ (dgL d2 ++ ([32] ++ (dgL d3 ++ (59 :: (wClouds ++ (clT cl ++ (59 :: (ckT ck ++ cpT cp))))))))))) := by
  unfold TX
  rw [jL0, jL1]
  simp
theorem ckT_cons (z : Nat × Nat) (ck : List (Nat × Nat)) (M : List Nat) : ckT (z :: ck) ++ M = wClerk ++ ([32] ++ (dgL z.1 ++ ([32] ++ (dgL z.2 ++ (59 :: (ckT ck ++ M)))))) := by
  unfold ckT
  rw [List.flatMap_cons, jL2]
  simp
theorem cpT_cons (z : Nat × Nat × Nat) (cp : List (Nat × Nat × Nat)) : cpT (z :: cp) = wCompl ++ ([32] ++ (dgL z.1 ++ ([32] ++ (jL (3 + z.2.1) ++ ([32] ++ (dgL z.2.2 ++ (59 :: cpT cp))))))) := by
  unfold cpT
  rw [List.flatMap_cons, jL7]
  simp
theorem clT_cons (z : Nat) (cl : List Nat) (M : List Nat) : clT (z :: cl) ++ M = [32] ++ (dgL z ++ (clT cl ++ M)) := by
  unfold clT
  rw [List.flatMap_cons]
  simp
theorem stop_sp {p : Int32 → Bool} {M : List Nat} (h : p (nI 32) = false) : stopB p ([32] ++ M) := fun c M' e => by cases e; exact h
theorem stop_59 {p : Int32 → Bool} {M : List Nat} (h : p (nI 59) = false) : stopB p (59 :: M) := fun c M' e => by cases e; exact h
theorem stop_cl {cl M : List Nat} : stopB digB (clT cl ++ (59 :: M)) := by
  cases cl with
  | nil => exact stop_59 (by decide)
  | cons z cl => rw [clT_cons]; exact stop_sp (by decide)
theorem stop_wcl {cl M : List Nat} (h : 0 < cl.length) : stopB smallB (clT cl ++ M) := by
  cases cl with
  | nil => exact absurd h (Nat.lt_irrefl 0)
  | cons z cl => rw [clT_cons]; exact stop_sp (by decide)
section PRS
variable {f : Nat → Int32} {L : Nat}
theorem tw {g : CSt} {A M : List Nat} {i : Nat} (h : TK f L g 1 A M) (hl : A.length = litN i) (hw : ∀ j, j < A.length → litF i j = nI (A.getD j 0)) : takW f L i g = advC f L g := tkC_t h.2.2.2 (word_t h hl hw)
theorem tn {g : CSt} {M : List Nat} {v a b : Nat} (hv : v ≤ 99) (h : TK f L g 2 (dgL v) M) (h1 : a ≤ v) (h2 : v ≤ b) (hb : b < 2 ^ 31) : takN f L (nI a) (nI b) g = advC f L g ∧ numV f (nI a) (nI b) g = nI v := by
  have e := num_v hv h
  have hr : rg (numC f g) (nI a) (nI b) = true := by rw [e]; exact rg_okN h1 h2 hb
  refine ⟨tkC_t h.2.2.2 hr, ?_⟩
  unfold numV
  rw [h.2.2.2, hr, e]; rfl
theorem ts {g : CSt} {A M : List Nat} (h : TK f L g 3 A M) : takS f L g = advC f L g := tkC_t h.2.2.2 (by rw [h.1]; rfl)
/-- the draft while clouds are read -/
def PC (o : Nat → Nat → Int32) (C : Nat) : Prop := o 0 4 = nI C ∧ (∀ j, j < C → ∃ z, z ≤ 9 ∧ o 1 j = nI z) ∧ o 0 0 = nI 0 ∧ o 0 5 = nI 0 ∧ o 0 7 = nI 0 ∧ ∀ i, i = 1 ∨ i = 2 ∨ i = 3 → ∃ z, z ≤ 14 ∧ o 0 i = nI z
theorem PC.add {o : Nat → Nat → Int32} {C z : Nat} (h : PC o C) (hz : z ≤ 9) : PC (addCl o C (nI z)) (C + 1) := by
  obtain ⟨h1, h2, h3, h4, h5, h6⟩ := h
  refine ⟨rfl, fun j hj => ?_, h3, h4, h5, fun i hi => ?_⟩
  · rw [show addCl o C (nI z) 1 j = if j = C then nI z else o 1 j from rfl]
    split
    · exact ⟨z, hz, rfl⟩
    · exact h2 j (by omega)
  · obtain ⟨y, hy, e⟩ := h6 i hi
    refine ⟨y, hy, ?_⟩
    rw [← e]
    show (if i = 4 then nI (C + 1) else o 0 i) = o 0 i
    exact if_neg (by omega)
theorem PC.ov {o : Nat → Nat → Int32} {C : Nat} (h : PC o C) (h0 : 0 < C) (hC : C ≤ 10) : OV o 0 0 C 0 := by
  obtain ⟨h1, h2, h3, h4, h5, h6⟩ := h
  exact ⟨⟨h5, by omega, h4, by omega, h1, h0, hC, h3, by decide, fun j hj => absurd hj (Nat.not_lt_zero j)⟩, h2, fun j hj => absurd hj (Nat.not_lt_zero j), fun k hk => absurd hk (Nat.not_lt_zero k), fun k k' hk => absurd hk (Nat.not_lt_zero k), h6⟩
def NXT (f : Nat → Int32) (L : Nat) (M : List Nat) : List Nat → CSt → Prop
  | [], g => TK f L g 3 [59] M
  | z :: c, g => TK f L g 2 (dgL z) (clT c ++ (59 :: M))
theorem nxt {g : CSt} {kd : Int32} {A0 M : List Nat} : ∀ {cl : List Nat}, (∀ z ∈ cl, z ≤ 9) → TK f L g kd A0 (clT cl ++ (59 :: M)) → NXT f L M cl (advC f L g)
  | [], _, h => nx_semi h
  | z :: c, hz, h => by
    rw [clT_cons] at h
    exact nx_num (by have := hz z List.mem_cons_self; omega) h (Or.inr rfl) stop_cl
theorem clL_run {M : List Nat} : ∀ (cl : List Nat) (n C : Nat) (s : DSt), NXT f L M cl s.2 → (∀ z ∈ cl, z ≤ 9) → cl.length ≤ n → PC s.1 C → ∃ s', clL f L n C s = (C + cl.length, s') ∧ TK f L s'.2 3 [59] M ∧ PC s'.1 (C + cl.length)
  | [], n, C, s, h, _, _, hp => by
    refine ⟨s, ?_, h, hp⟩
    have hb : clB s = false := by unfold clB; rw [show s.2.1 = 3 from h.1]; simp
    cases n with
    | zero => rfl
    | succ n =>
      show (if clB s then _ else (C, s)) = _
      rw [hb]; rfl
  | z :: c, 0, C, s, h, _, hn, hp => absurd hn (Nat.not_succ_le_zero _)
  | z :: c, n + 1, C, s, h, hz, hn, hp => by
    have h : TK f L s.2 2 (dgL z) (clT c ++ (59 :: M)) := h
    have hz9 := hz z List.mem_cons_self
    have hb : clB s = true := by unfold clB; rw [show s.2.2.2.2.1 = false from h.2.2.2, show s.2.1 = 2 from h.1]; rfl
    obtain ⟨e1, e2⟩ := tn (a := 0) (b := 9) (by omega) h (Nat.zero_le _) hz9 (by decide)
    have e3 : cl1 f L C s = (addCl s.1 C (nI z), advC f L s.2) := by
      unfold cl1
      rw [show numV f 0 9 s.2 = nI z from e2, show takN f L 0 9 s.2 = advC f L s.2 from e1]
    obtain ⟨s', g1, g2, g3⟩ := clL_run c n (C + 1) (addCl s.1 C (nI z), advC f L s.2) (nxt (fun y hy => hz y (List.mem_cons_of_mem _ hy)) h) (fun y hy => hz y (List.mem_cons_of_mem _ hy)) (Nat.le_of_succ_le_succ hn) (hp.add hz9)
    refine ⟨s', ?_, g2, ?_⟩
    · show (if clB s then clL f L n (C + 1) (cl1 f L C s) else (C, s)) = _
      rw [hb, e3]
      show clL f L n (C + 1) _ = _
      rw [g1]
      show (C + 1 + c.length, s') = (C + (c.length + 1), s')
      congr 1; omega
    · rw [show C + (z :: c).length = C + 1 + c.length by show C + (c.length + 1) = _; omega]
      exact g3
end PRS
