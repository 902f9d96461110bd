/-! a night, one office alone: what it leaves -/
def incA (a : Nat) : Nat := if a + 1 < 9 then a + 1 else 9
def angN (a age : Nat) : Nat := if age % 7 = 0 then incA a else a
def NRk (o o' : Nat → Nat → Int32) (K C nt k : Nat) : Prop :=
  (¬ o 8 k = 0 ∧ o' 8 k = o 8 k ∧ o' 9 k = o 9 k ∧ o' 10 k = o 10 k ∧ o' 6 k = o 6 k) ∨
  (o 8 k = 0 ∧ o' 6 k = o 6 k ∧ o' 9 k = nI nt ∧ (∃ j, j < K ∧ o' 10 k = nI j) ∧ ((o' 8 k = 1 ∧ ∀ q, o 5 k = nI q → q < 4 → justB q (o 0 1) (o 0 2) (o 0 3) nt (o 1 (nt % C)) = true) ∨ (o' 8 k = 2 ∧ ∀ f, o 7 k = nI f → f ≤ nt → f + 14 ≤ nt))) ∨
  (o 8 k = 0 ∧ o' 10 k = -1 ∧ ∀ a f, o 6 k = nI a → a ≤ 9 → o 7 k = nI f → f ≤ nt → o' 6 k = nI (angN a (nt + 1 - f)) ∧ ((nt + 1 - f ≠ 56 ∧ o' 8 k = 0) ∨ (nt + 1 - f = 56 ∧ o' 8 k = 3 ∧ o' 9 k = nI (nt + 1))))
section NF
variable {o : Nat → Nat → Int32} {N K C nt : Nat}
theorem inc_nat : ∀ a, a ≤ 9 → (if nI a + 1 < 9 then nI a + 1 else (9 : Int32)) = nI (incA a) := by decide +kernel
theorem rem7 {k : Nat} (hk : k < 2 ^ 31) : (nI k - nI k / 7 * 7 = 0) ↔ k % 7 = 0 := by
  rw [show nI k - nI k / 7 * 7 = nI (k % 7) from pk_rem (d := 7) hk (by decide) (by decide)]
  exact nI_eq (a := k % 7) (b := 0) (by omega) (by decide)
theorem grow_old {o3 : Nat → Nat → Int32} {k a f : Nat} (h8 : o3 8 k = 0) (h10 : o3 10 k = -1) (h6 : o3 6 k = nI a) (ha : a ≤ 9) (h7 : o3 7 k = nI f) (hf : f ≤ nt) (hb : nt + 1 < 2 ^ 18) :
    (growC (nI (nt + 1)) k o3) 6 k = nI (angN a (nt + 1 - f)) ∧ (growC (nI (nt + 1)) k o3) 10 k = -1 ∧ ((nt + 1 - f ≠ 56 ∧ (growC (nI (nt + 1)) k o3) 8 k = 0) ∨ (nt + 1 - f = 56 ∧ (growC (nI (nt + 1)) k o3) 8 k = 3 ∧ (growC (nI (nt + 1)) k o3) 9 k = nI (nt + 1))) := by
  have e : nI (nt + 1) - o3 7 k = nI (nt + 1 - f) := by rw [h7]; exact pk_sub (by omega)
  have e56 : (nI (nt + 1 - f) = 56) ↔ nt + 1 - f = 56 := nI_eq (b := 56) (by omega) (by decide)
  have e7 := rem7 (k := nt + 1 - f) (by omega)
  have b1 : ∀ (x : Int32), va_up o3 6 (va_up (o3 6) k x) 6 k = x := fun x => by
    show (if 6 = 6 then va_up (o3 6) k x else o3 6) k = x
    rw [if_pos rfl]
    show (if k = k then x else o3 6 k) = x
    rw [if_pos rfl]
  have cl : ∀ (f3 : Nat → Nat → Int32) (st n ck : Int32), pileClose f3 k st n ck 6 k = f3 6 k ∧ pileClose f3 k st n ck 10 k = ck ∧ pileClose f3 k st n ck 8 k = st ∧ pileClose f3 k st n ck 9 k = n := by
    intro f3 st n ck
    refine ⟨rfl, ?_, ?_, ?_⟩
    · show (if k = k then ck else f3 10 k) = ck
      rw [if_pos rfl]
    · show (if k = k then st else f3 8 k) = st
      rw [if_pos rfl]
    · show (if k = k then n else f3 9 k) = n
      rw [if_pos rfl]
  unfold growC
  rw [if_pos h8, e, h6, inc_nat a ha]
  unfold angN
  by_cases h56 : nt + 1 - f = 56
  · rw [if_pos (e56.mpr h56)]
    obtain ⟨c1, c2, c3, c4⟩ := cl (if nI (nt + 1 - f) - nI (nt + 1 - f) / 7 * 7 = 0 then va_up o3 6 (va_up (o3 6) k (nI (incA a))) else o3) 3 (nI (nt + 1)) (-1)
    refine ⟨?_, c2, Or.inr ⟨h56, c3, c4⟩⟩
    rw [c1]
    by_cases hr : (nt + 1 - f) % 7 = 0
    · rw [if_pos (e7.mpr hr), if_pos hr]; exact b1 _
    · rw [if_neg (fun z => hr (e7.mp z)), if_neg hr]; exact h6
  · rw [if_neg (fun z => h56 (e56.mp z))]
    by_cases hr : (nt + 1 - f) % 7 = 0
    · rw [if_pos (e7.mpr hr), if_pos hr]
      exact ⟨b1 _, h10, Or.inl ⟨h56, h8⟩⟩
    · rw [if_neg (fun z => hr (e7.mp z)), if_neg hr]
      exact ⟨h6, h10, Or.inl ⟨h56, h8⟩⟩
theorem night_k (hOV : OV o N K C nt) (hb : nt + 1 < 2 ^ 18) {c : Nat} (hI : WI o (clerksNightC N K C nt o).2 N K C nt c) {k : Nat} (hk : k < N) : NRk o (nightC N K C nt o).2 K C nt k ∧ (∀ j, j < K → ((o 8 k = 0 ∧ (nightC N K C nt o).2 10 k = nI j) ↔ (o 8 k = 0 ∧ (clerksNightC N K C nt o).2 10 k = nI j))) ∧
    (((nightC N K C nt o).2 8 k = 1) ↔ ((clerksNightC N K C nt o).2 8 k = 1)) ∧ (((nightC N K C nt o).2 8 k = 2) ↔ ((clerksNightC N K C nt o).2 8 k = 2)) := by
  have hK := hOV.K5
  generalize hs : (clerksNightC N K C nt o).2 = os at hI
  have e' : ∀ r, (nightC N K C nt o).2 r k = (growC (nI (nt + 1)) k (va_up os 0 (va_up (os 0) 0 (nI (nt + 1))))) r k := by
    intro r
    rw [← hs]
    exact grow_at N 0 _ (Nat.zero_le _) (by omega)
  generalize h3 : va_up os 0 (va_up (os 0) 0 (nI (nt + 1))) = o3 at e'
  have col : ∀ r, r ≠ 0 → o3 r k = os r k := fun r hr => by
    rw [← h3]
    show (if r = 0 then _ else os r) k = os r k
    rw [if_neg hr]
  generalize (nightC N K C nt o).2 = on at e' ⊢
  obtain ⟨⟨w0, w1, w2, w4, w5, w6, w7⟩, hcw, -⟩ := hI
  have stay : ¬ os 8 k = 0 → ∀ r, r ≠ 0 → on r k = os r k := by
    intro h r hr
    rw [e']
    unfold growC
    rw [col 8 (by decide), if_neg h]
    exact col r hr
  rcases hcw k hk with ⟨a8, a9, a10⟩ | ⟨b0, b9, ⟨j, hj, b10⟩, bb⟩
  · by_cases h0 : o 8 k = 0
    · obtain ⟨p, q, a, f, hp, hq, ha, ha9, hf, g4, g5, g6, g7, hst⟩ := hOV.co k hk
      have h10 : o 10 k = -1 := by
        rcases hst with ⟨-, e10, -⟩ | ⟨cc, -, -, -, -, ⟨e8, -⟩ | ⟨e8, -⟩ | ⟨e8, -⟩⟩
        · exact e10
        · rw [h0] at e8; exact absurd e8 (by decide)
        · rw [h0] at e8; exact absurd e8 (by decide)
        · rw [h0] at e8; exact absurd e8 (by decide)
      have g := grow_old (o3 := o3) (k := k) (nt := nt) (a := a) (f := f) (by rw [col 8 (by decide), a8, h0]) (by rw [col 10 (by decide), a10, h10]) (by rw [col 6 (by decide), w6, g6]) ha9 (by rw [col 7 (by decide), w7, g7]) hf hb
      rw [← e', ← e', ← e', ← e'] at g
      obtain ⟨d6, d10, dd⟩ := g
      refine ⟨Or.inr (Or.inr ⟨h0, d10, fun a' f' ha' ha9' hf' hfn' => ?_⟩), fun j hj => ?_, ?_, ?_⟩
      · have ea : a' = a := (nI_eq (by omega) (by omega)).mp (ha'.symm.trans g6)
        have ef : f' = f := (nI_eq (by omega) (by omega)).mp (hf'.symm.trans g7)
        subst ea; subst ef
        exact ⟨d6, dd⟩
      · rw [d10, a10, h10]
      · rw [a8, h0]
        rcases dd with ⟨-, d8⟩ | ⟨-, d8, -⟩ <;> rw [d8] <;> decide
      · rw [a8, h0]
        rcases dd with ⟨-, d8⟩ | ⟨-, d8, -⟩ <;> rw [d8] <;> decide
    · have hn : ¬ os 8 k = 0 := by rw [a8]; exact h0
      have s := stay hn
      refine ⟨Or.inl ⟨h0, (s 8 (by decide)).trans a8, (s 9 (by decide)).trans a9, (s 10 (by decide)).trans a10, (s 6 (by decide)).trans (by rw [w6])⟩, fun j hj => ?_, ?_, ?_⟩
      · rw [s 10 (by decide)]
      · rw [s 8 (by decide)]
      · rw [s 8 (by decide)]
  · have hn : ¬ os 8 k = 0 := by rcases bb with ⟨e, -⟩ | ⟨e, -⟩ <;> rw [e] <;> decide
    have s := stay hn
    refine ⟨Or.inr (Or.inl ⟨b0, (s 6 (by decide)).trans (by rw [w6]), (s 9 (by decide)).trans b9, ⟨j, hj, (s 10 (by decide)).trans b10⟩, ?_⟩), fun i hi => ?_, ?_, ?_⟩
    · rw [s 8 (by decide)]; exact bb
    · rw [s 10 (by decide)]
    · rw [s 8 (by decide)]
    · rw [s 8 (by decide)]
/-- what a night leaves and tells -/
def NA (o o' : Nat → Nat → Int32) (N K C nt c : Nat) : Prop :=
  (∀ k, k < N → NRk o o' K C nt k) ∧ (o' 1 = o 1 ∧ o' 2 = o 2 ∧ o' 4 = o 4 ∧ o' 5 = o 5 ∧ o' 7 = o 7) ∧ (∀ j, j < K → ∃ z, z + c * hnd o o' N j ≤ 99 ∧ o' 3 j = nI z ∧ o 3 j = nI (z + c * hnd o o' N j) ∧ ∀ S, o 2 j = nI S → S ≤ 9 → hnd o o' N j ≤ 1 + S / 3) ∧
  o' 0 6 = o 0 6 + nI (c * sN (hnd o o' N) K) ∧ cntC o' 1 N + cntC o' 2 N = cntC o 1 N + cntC o 2 N + nI (sN (hnd o o' N) K) ∧ (∀ i, i ≠ 0 → i ≠ 6 → o' 0 i = o 0 i)
theorem night_all (hOV : OV o N K C nt) (hb : nt + 1 < 2 ^ 18) : ∃ c, c ≤ 6 ∧ costC C nt o = nI c ∧ NA o (nightC N K C nt o).2 N K C nt c ∧ OV (nightC N K C nt o).2 N K C (nt + 1) := by
  obtain ⟨c, hc, hcost⟩ := hOV.cost
  obtain ⟨hI, hlim⟩ := clerks_I hOV hc hcost
  have hkk := fun k (hk : k < N) => night_k hOV hb hI hk
  have hoi := hOV.oi.night hb
  have h00 : ∀ i, i ≠ 0 → i ≠ 6 → (nightC N K C nt o).2 0 i = o 0 i := fun i h1 h2 => nightC_0 h1 h2
  have h06 : (nightC N K C nt o).2 0 6 = (clerksNightC N K C nt o).2 0 6 := by
    show iter (growC (nI (nt + 1))) N 0 _ 0 6 = _
    rw [grows_keep.1]; rfl
  have hrow : ∀ r, r = 1 ∨ r = 2 ∨ r = 3 ∨ r = 4 ∨ r = 5 ∨ r = 7 → (nightC N K C nt o).2 r = (clerksNightC N K C nt o).2 r := by
    intro r hr
    have g := grows_keep (z := nI (nt + 1)) (n := N) (i := 0) (o := va_up (clerksNightC N K C nt o).2 0 (va_up ((clerksNightC N K C nt o).2 0) 0 (nI (nt + 1))))
    rcases hr with rfl | rfl | rfl | rfl | rfl | rfl
    · exact g.2.1
    · exact g.2.2.1
    · exact g.2.2.2.1
    · exact g.2.2.2.2.1
    · exact g.2.2.2.2.2.1
    · exact g.2.2.2.2.2.2
  have hK := hOV.K5
  have hN24 := hOV.N24
  generalize hon : (nightC N K C nt o).2 = on at hkk hoi h00 h06 hrow ⊢
  generalize (clerksNightC N K C nt o).2 = os at hI hlim hkk h06 hrow
  have hh : ∀ j, j < K → hnd o on N j = hnd o os N j := by
    intro j hj
    refine cN_congr (fun k hk => ?_)
    rw [← Bool.decide_and, ← Bool.decide_and]
    exact decide_eq_decide.mpr ((hkk k hk).2.1 j hj)
  have hsum : sN (hnd o on N) K = tN o os N := (sN_congr hh).trans hI.2.2.2.2.1
  obtain ⟨⟨w0, w1, w2, w4, w5, w6, w7⟩, hcw, ho, hu, hs, hd⟩ := hI
  have r1 := (hrow 1 (by decide)).trans w1
  have r2 := (hrow 2 (by decide)).trans w2
  have r4 := (hrow 4 (by decide)).trans w4
  have r5 := (hrow 5 (by decide)).trans w5
  have r7 := (hrow 7 (by decide)).trans w7
  refine ⟨c, hc, hcost, ⟨fun k hk => (hkk k hk).1, ⟨r1, r2, r4, r5, r7⟩, fun j hj => ?_, ?_, ?_, h00⟩, hoi, ?_, ?_, ?_, ?_, fun i hi => by rw [h00 i (by omega) (by omega)]; exact hOV.lm i hi⟩
  · obtain ⟨z, hz, e1, e2⟩ := ho j hj
    rw [hh j hj]
    exact ⟨z, hz, by rw [hrow 3 (by decide)]; exact e1, e2, hlim j hj⟩
  · rw [h06, hu, hsum]
  · rw [hsum]
    have e1 : cntC on 1 N = nI (cN (fun k => decide (os 8 k = 1)) N) := by
      refine (cntI_0N _ N).trans ?_
      congr 1
      exact cN_congr (fun k hk => decide_eq_decide.mpr (hkk k hk).2.2.1)
    have e2 : cntC on 2 N = nI (cN (fun k => decide (os 8 k = 2)) N) := by
      refine (cntI_0N _ N).trans ?_
      congr 1
      exact cN_congr (fun k hk => decide_eq_decide.mpr (hkk k hk).2.2.2)
    rw [e1, e2, show cntC o 1 N = nI _ from cntI_0N _ N, show cntC o 2 N = nI _ from cntI_0N _ N, nI_add, nI_add, nI_add]
    congr 1
  · intro j hj
    rw [r1]; exact hOV.cl j hj
  · intro j hj
    obtain ⟨z, hz, e1, e2⟩ := ho j hj
    exact ⟨z, by omega, by rw [hrow 3 (by decide)]; exact e1⟩
  · intro k hk
    obtain ⟨p, q, a, f, hp, hq, ha, ha9, hf, g4, g5, g6, g7, hst⟩ := hOV.co k hk
    have hang : 0 < angN a (nt + 1 - f) ∧ angN a (nt + 1 - f) ≤ 9 := by
      unfold angN incA
      split
      · split <;> omega
      · omega
    rcases (hkk k hk).1 with ⟨n0, m8, m9, m10, m6⟩ | ⟨n0, m6, m9, ⟨j, hj, m10⟩, mm⟩ | ⟨n0, m10, mm⟩
    · rcases hst with ⟨e8, -⟩ | ⟨cc, hc1, hc2, hc3, e9, hs'⟩
      · exact absurd e8 n0
      · refine ⟨p, q, a, f, hp, hq, ha, ha9, by omega, by rw [r4]; exact g4, by rw [r5]; exact g5, m6.trans g6, by rw [r7]; exact g7, Or.inr ⟨cc, hc1, by omega, hc3, m9.trans e9, ?_⟩⟩
        rw [m8, m10]; exact hs'
    · rcases hst with ⟨e8, e10, hw⟩ | ⟨cc, -, -, -, -, ⟨e8, -⟩ | ⟨e8, -⟩ | ⟨e8, -⟩⟩
      · refine ⟨p, q, a, f, hp, hq, ha, ha9, by omega, by rw [r4]; exact g4, by rw [r5]; exact g5, m6.trans g6, by rw [r7]; exact g7, Or.inr ⟨nt, hf, by omega, by omega, m9, ?_⟩⟩
        rcases mm with ⟨m8, -⟩ | ⟨m8, m14⟩
        · exact Or.inl ⟨m8, j, hj, m10⟩
        · exact Or.inr (Or.inl ⟨m8, m14 f g7 hf, j, hj, m10⟩)
      · rw [n0] at e8; exact absurd e8 (by decide)
      · rw [n0] at e8; exact absurd e8 (by decide)
      · rw [n0] at e8; exact absurd e8 (by decide)
    · rcases hst with ⟨e8, e10, hw⟩ | ⟨cc, -, -, -, -, ⟨e8, -⟩ | ⟨e8, -⟩ | ⟨e8, -⟩⟩
      · obtain ⟨m6, m8⟩ := mm a f g6 ha9 g7 hf
        rcases m8 with ⟨hne, m8⟩ | ⟨heq, m8, m9⟩
        · exact ⟨p, q, _, f, hp, hq, hang.1, hang.2, by omega, by rw [r4]; exact g4, by rw [r5]; exact g5, m6, by rw [r7]; exact g7, Or.inl ⟨m8, m10, by omega⟩⟩
        · exact ⟨p, q, _, f, hp, hq, hang.1, hang.2, by omega, by rw [r4]; exact g4, by rw [r5]; exact g5, m6, by rw [r7]; exact g7, Or.inr ⟨nt + 1, by omega, by omega, by omega, m9, Or.inr (Or.inr ⟨m8, m10⟩)⟩⟩
      · rw [n0] at e8; exact absurd e8 (by decide)
      · rw [n0] at e8; exact absurd e8 (by decide)
      · rw [n0] at e8; exact absurd e8 (by decide)
  · intro k k' hk hk' h8 h8' h4 h5
    have w : ∀ k, k < N → on 8 k = 0 → o 8 k = 0 := by
      intro k hk h
      rcases (hkk k hk).1 with ⟨n0, m8, -⟩ | ⟨n0, -⟩ | ⟨n0, -⟩
      · rw [← m8]; exact h
      · exact n0
      · exact n0
    rw [r4] at h4
    rw [r5] at h5
    exact hOV.un k k' hk hk' (w k hk h8) (w k' hk' h8') h4 h5
end NF
