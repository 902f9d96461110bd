/-! the text of a window, read: clerks, complaints, the whole -/
section PRS
variable {f : Nat → Int32} {L : Nat}
/-- the reader stands at an entry, or at the end -/
def ENC (f : Nat → Int32) (L : Nat) : List (Nat × Nat × Nat) → CSt → Prop
  | [], g => TK f L g 0 [] []
  | z :: cp, g => TK f L g 1 wCompl ([32] ++ (dgL z.1 ++ ([32] ++ (jL (3 + z.2.1) ++ ([32] ++ (dgL z.2.2 ++ (59 :: cpT cp)))))))
def ENT (f : Nat → Int32) (L : Nat) (cp : List (Nat × Nat × Nat)) : List (Nat × Nat) → CSt → Prop
  | [], g => ENC f L cp g
  | z :: ck, g => TK f L g 1 wClerk ([32] ++ (dgL z.1 ++ ([32] ++ (dgL z.2 ++ (59 :: (ckT ck ++ cpT cp))))))
theorem nx_enc {g : CSt} {kd : Int32} {A0 : List Nat} : ∀ {cp : List (Nat × Nat × Nat)}, TK f L g kd A0 (cpT cp) → ENC f L cp (advC f L g)
  | [], h => nx_end h
  | z :: cp, h => by
    rw [cpT_cons] at h
    exact nx_word (B := []) h (Or.inl rfl) (by decide) (by decide) (stop_sp (by decide))
theorem nx_ent {g : CSt} {kd : Int32} {A0 : List Nat} {cp : List (Nat × Nat × Nat)} : ∀ {ck : List (Nat × Nat)}, TK f L g kd A0 (ckT ck ++ cpT cp) → ENT f L cp ck (advC f L g)
  | [], h => nx_enc h
  | z :: ck, h => by
    rw [ckT_cons] at h
    exact nx_word (B := []) h (Or.inl rfl) (by decide) (by decide) (stop_sp (by decide))
theorem w_clerk {g : CSt} {M : List Nat} (h : TK f L g 1 wClerk M) : wordC f 3 g = true := word_t h (by decide) (by decide)
theorem w_compl {g : CSt} {M : List Nat} (h : TK f L g 1 wCompl M) : wordC f 4 g = true := word_t h (by decide) (by decide)
theorem enc_no {cp : List (Nat × Nat × Nat)} {g : CSt} (h : ENC f L cp g) : wordC f 3 g = false := by
  cases cp with
  | nil => exact word_f h (Or.inl (by decide))
  | cons z cp => exact word_f h (Or.inr (Or.inl (by decide)))
theorem ckL_run {C : Nat} {cp : List (Nat × Nat × Nat)} : ∀ (ck : List (Nat × Nat)) (n K : Nat) (s : DSt), ENT f L cp ck s.2 → (∀ z ∈ ck, 1 ≤ z.1 ∧ z.1 ≤ 9 ∧ z.2 ≤ 99) → ck.length ≤ n → K + ck.length ≤ 5 → OV s.1 0 K C 0 → ∃ s', ckL f L n K s = (K + ck.length, s') ∧ ENC f L cp s'.2 ∧ OV s'.1 0 (K + ck.length) C 0
  | [], n, K, s, h, _, _, _, hp => by
    refine ⟨s, ?_, h, hp⟩
    have hb : ckB f 3 s = false := by unfold ckB; rw [enc_no h]; simp
    cases n with
    | zero => rfl
    | succ n =>
      show (if ckB f 3 s then _ else (K, s)) = _
      rw [hb]; rfl
  | z :: c, 0, K, s, h, _, hn, _, hp => absurd hn (Nat.not_succ_le_zero _)
  | z :: c, n + 1, K, s, h, hz, hn, hK, hp => by
    have h : TK f L s.2 1 wClerk ([32] ++ (dgL z.1 ++ ([32] ++ (dgL z.2 ++ (59 :: (ckT c ++ cpT cp)))))) := h
    obtain ⟨z1, z2, z3⟩ := hz z List.mem_cons_self
    have hK9 : K + (c.length + 1) ≤ 5 := hK
    have hb : ckB f 3 s = true := by unfold ckB; rw [show s.2.2.2.2.1 = false from h.2.2.2, w_clerk h]; rfl
    have t1 : ck1 f L s.2 = advC f L s.2 := tw h (by decide) (by decide)
    have h1 : TK f L (advC f L s.2) 2 (dgL z.1) ([32] ++ (dgL z.2 ++ (59 :: (ckT c ++ cpT cp)))) := nx_num (by omega) h (Or.inr rfl) (stop_sp (by decide))
    obtain ⟨e1, e2⟩ := tn (a := 1) (b := 9) (by omega) h1 z1 z2 (by decide)
    have t2 : ck2 f L s.2 = advC f L (advC f L s.2) := by unfold ck2; rw [t1]; exact e1
    have h2 : TK f L (advC f L (advC f L s.2)) 2 (dgL z.2) (59 :: (ckT c ++ cpT cp)) := nx_num (by omega) h1 (Or.inr rfl) (stop_59 (by decide))
    obtain ⟨e3, e4⟩ := tn (a := 0) (b := 99) (by omega) h2 (Nat.zero_le _) z3 (by decide)
    have t3 : ck3 f L s.2 = advC f L (advC f L (advC f L s.2)) := by unfold ck3; rw [t2]; exact e3
    have h3 : TK f L (advC f L (advC f L (advC f L s.2))) 3 [59] (ckT c ++ cpT cp) := nx_semi h2
    have e5 : ckA f L K s = (staffAdd s.1 K (nI z.1) (nI z.2), advC f L (advC f L (advC f L (advC f L s.2)))) := by
      unfold ckA
      rw [t1, t2, t3, ts h3, show numV f 1 9 (advC f L s.2) = nI z.1 from e2, show numV f 0 99 (advC f L (advC f L s.2)) = nI z.2 from e4]
    obtain ⟨s', g1, g2, g3⟩ := ckL_run c n (K + 1) (staffAdd s.1 K (nI z.1) (nI z.2), advC f L (advC f L (advC f L (advC f L s.2)))) (nx_ent h3) (fun y hy => hz y (List.mem_cons_of_mem _ hy)) (Nat.le_of_succ_le_succ hn) (by omega) (hp.hire (by omega) (by omega) z3)
    refine ⟨s', ?_, g2, ?_⟩
    · show (if ckB f 3 s then ckL f L n (K + 1) (ckA f L K s) else (K, s)) = _
      rw [hb, e5]
      show ckL f L n (K + 1) _ = _
      rw [g1]
      show (K + 1 + c.length, s') = (K + (c.length + 1), s')
      congr 1; omega
    · rw [show K + (z :: c).length = K + 1 + c.length by show K + (c.length + 1) = _; omega]
      exact g3
/-- a sort's word -/
theorem sort_w {g : CSt} {M : List Nat} {q : Nat} (hq : q < 4) (h : TK f L g 1 (jL (3 + q)) M) : sortC f g = nI q := by
  unfold sortC
  obtain rfl | rfl | rfl | rfl : q = 0 ∨ q = 1 ∨ q = 2 ∨ q = 3 := by omega
  · rw [if_pos (word_t h (by decide) (by decide))]; rfl
  · rw [if_neg (by rw [word_f h (Or.inr (Or.inr ⟨2, by decide, by decide⟩))]; decide), if_pos (word_t h (by decide) (by decide))]; rfl
  · rw [if_neg (by rw [word_f h (Or.inr (Or.inl (by decide)))]; decide), if_neg (by rw [word_f h (Or.inr (Or.inl (by decide)))]; decide), if_pos (word_t h (by decide) (by decide))]; rfl
  · rw [if_neg (by rw [word_f h (Or.inr (Or.inl (by decide)))]; decide), if_neg (by rw [word_f h (Or.inr (Or.inl (by decide)))]; decide), if_neg (by rw [word_f h (Or.inr (Or.inr ⟨0, by decide, by decide⟩))]; decide), if_pos (word_t h (by decide) (by decide))]; rfl
theorem jL_sm {q : Nat} (hq : q < 4) : jL (3 + q) ≠ [] ∧ ∀ c ∈ jL (3 + q), 97 ≤ c ∧ c ≤ 122 := by
  obtain rfl | rfl | rfl | rfl : q = 0 ∨ q = 1 ∨ q = 2 ∨ q = 3 := by omega
  all_goals decide
/-- the complaints so far are of persons below 5N -/
def PB (o : Nat → Nat → Int32) (N : Nat) : Prop := ∀ k, k < N → ∃ p, p < 5 * N ∧ o 4 k = nI p
def CPF (N : Nat) (cp : List (Nat × Nat × Nat)) : Prop := ∀ (k : Nat) (y : Nat × Nat × Nat), cp[k]? = some y → 5 * (N + k) ≤ y.1 ∧ y.1 ≤ 5 * (N + k) + 3 ∧ y.2.1 < 4 ∧ 1 ≤ y.2.2 ∧ y.2.2 ≤ 9
theorem PB.none {o : Nat → Nat → Int32} {N p q : Nat} (h : PB o N) (hp : 5 * N ≤ p) (hp2 : p < 2 ^ 31) : findC o (nI p) (nI q) N = none := by
  cases hf : findC o (nI p) (nI q) N with
  | none => rfl
  | some j =>
    obtain ⟨g1, -, g3, -⟩ := findC_lt hf
    obtain ⟨p', h1, h2⟩ := h j g1
    have := (nI_eq (by omega) hp2).mp (h2.symm.trans g3)
    omega
theorem coL_run {K C : Nat} : ∀ (cp : List (Nat × Nat × Nat)) (n N : Nat) (s : DSt), ENC f L cp s.2 → CPF N cp → cp.length ≤ n → N + cp.length ≤ 15 → OV s.1 N K C 0 → PB s.1 N → ∃ s', coL f L n N s = (N + cp.length, s') ∧ TK f L s'.2 0 [] [] ∧ OV s'.1 (N + cp.length) K C 0
  | [], n, N, s, h, _, _, _, hp, _ => by
    refine ⟨s, ?_, h, hp⟩
    have hb : ckB f 4 s = false := by unfold ckB; rw [word_f (i := 4) (show TK f L s.2 0 [] [] from h) (Or.inl (by decide))]; simp
    cases n with
    | zero => rfl
    | succ n =>
      show (if ckB f 4 s then _ else (N, s)) = _
      rw [hb]; rfl
  | z :: c, 0, N, s, h, _, hn, _, hp, _ => absurd hn (Nat.not_succ_le_zero _)
  | z :: c, n + 1, N, s, h, hz, hn, hN, hp, hpb => by
    have h : TK f L s.2 1 wCompl ([32] ++ (dgL z.1 ++ ([32] ++ (jL (3 + z.2.1) ++ ([32] ++ (dgL z.2.2 ++ (59 :: cpT c))))))) := h
    obtain ⟨z1, z2, z3, z4, z5⟩ := hz 0 z rfl
    have hN9 : N + (c.length + 1) ≤ 15 := hN
    have hb : ckB f 4 s = true := by unfold ckB; rw [show s.2.2.2.2.1 = false from h.2.2.2, w_compl h]; rfl
    have t1 : co1 f L s.2 = advC f L s.2 := tw h (by decide) (by decide)
    have h1 : TK f L (advC f L s.2) 2 (dgL z.1) ([32] ++ (jL (3 + z.2.1) ++ ([32] ++ (dgL z.2.2 ++ (59 :: cpT c))))) := nx_num (by omega) h (Or.inr rfl) (stop_sp (by decide))
    obtain ⟨e1, e2⟩ := tn (a := 0) (b := 99) (by omega) h1 (Nat.zero_le _) (by omega) (by decide)
    have e2 : numV f 0 99 (co1 f L s.2) = nI z.1 := by rw [t1]; exact e2
    have t2 : co2 f L s.2 = advC f L (advC f L s.2) := by unfold co2; rw [t1]; exact e1
    have h2 : TK f L (advC f L (advC f L s.2)) 1 (jL (3 + z.2.1)) ([32] ++ (dgL z.2.2 ++ (59 :: cpT c))) := nx_word h1 (Or.inr rfl) (jL_sm z3).1 (jL_sm z3).2 (stop_sp (by decide))
    have hs := sort_w z3 h2
    have hno := hpb.none (p := z.1) (q := z.2.1) (by omega) (by omega)
    have hsb : srtB f s.1 (nI z.1) N (advC f L (advC f L s.2)) = true := by
      unfold srtB
      rw [hs, hno, decide_eq_false (nI_nneg (by omega) (by decide))]; rfl
    have t3 : co3 f L N s = advC f L (advC f L (advC f L s.2)) := by
      unfold co3; rw [e2, t2]; exact tkC_t h2.2.2.2 hsb
    have sv : sortV f s.1 (nI z.1) N (advC f L (advC f L s.2)) = nI z.2.1 := by
      unfold sortV; rw [h2.2.2.2, hsb, hs]; rfl
    have h3 : TK f L (advC f L (advC f L (advC f L s.2))) 2 (dgL z.2.2) (59 :: cpT c) := nx_num (by omega) h2 (Or.inr rfl) (stop_59 (by decide))
    obtain ⟨e3, e4⟩ := tn (a := 1) (b := 9) (by omega) h3 z4 z5 (by decide)
    have t4 : co4 f L N s = advC f L (advC f L (advC f L (advC f L s.2))) := by unfold co4; rw [t3]; exact e3
    have h4 : TK f L (advC f L (advC f L (advC f L (advC f L s.2)))) 3 [59] (cpT c) := nx_semi h3
    have hnn : s.1 0 0 = 0 := hp.oi.2.2.2.2.2.2.2.1
    have e5 : coA f L N s = (pileAdd s.1 N (nI z.1) (nI z.2.1) (nI z.2.2) (s.1 0 0), advC f L (advC f L (advC f L (advC f L (advC f L s.2))))) := by
      unfold coA
      rw [e2, t2, sv, t3, show numV f 1 9 (advC f L (advC f L (advC f L s.2))) = nI z.2.2 from e4, t4, ts h4, hnn]
    have hpb2 : PB (pileAdd s.1 N (nI z.1) (nI z.2.1) (nI z.2.2) (s.1 0 0)) (N + 1) := fun k hk => by
      rw [show pileAdd s.1 N (nI z.1) (nI z.2.1) (nI z.2.2) (s.1 0 0) 4 k = if k = N then nI z.1 else s.1 4 k from rfl]
      split
      · exact ⟨z.1, by omega, rfl⟩
      · obtain ⟨p, h9, h8⟩ := hpb k (by omega)
        exact ⟨p, by omega, h8⟩
    obtain ⟨s', g1, g2, g3⟩ := coL_run c n (N + 1) (pileAdd s.1 N (nI z.1) (nI z.2.1) (nI z.2.2) (s.1 0 0), advC f L (advC f L (advC f L (advC f L (advC f L s.2))))) (nx_enc h4) (fun k y hy => by have h9 := hz (k + 1) y hy; rw [show N + 1 + k = N + (k + 1) by omega]; exact h9) (Nat.le_of_succ_le_succ hn) (by omega) (hp.file (by omega) (by omega) z3 (by omega) z5 hno) hpb2
    refine ⟨s', ?_, g2, ?_⟩
    · show (if ckB f 4 s then coL f L n (N + 1) (coA f L N s) else (N, s)) = _
      rw [hb, e5]
      show coL f L n (N + 1) _ = _
      rw [g1]
      show (N + 1 + c.length, s') = (N + (c.length + 1), s')
      congr 1; omega
    · rw [show N + (z :: c).length = N + 1 + c.length by show N + (c.length + 1) = _; omega]
      exact g3
/-- the whole text read: no error, a draft that keeps -/
theorem read_ok {d1 d2 d3 : Nat} {cl : List Nat} {ck : List (Nat × Nat)} {cp : List (Nat × Nat × Nat)} (hw : WOK d1 d2 d3 cl ck cp) (h : AT f L 0 (TX d1 d2 d3 cl ck cp)) (o : Nat → Nat → Int32) (g : CSt) :
    (rd5 f L (o, g)).2.2.2.1 = false ∧ OV ((rd4 f L (o, g)).2.1) cp.length ck.length cl.length 0 := by
  obtain ⟨⟨w1, w2⟩, w3, w4, ⟨w5, w6, w7⟩, ⟨w8, w9⟩, w10, w11⟩ := hw
  rw [TX_eq] at h
  have h00 : TK f L (g.1, 0, 0, false, -1) g.1 [] (wMoon ++ ([32] ++ (dgL d1 ++ ([32] ++ (dgL d2 ++ ([32] ++ (dgL d3 ++ (59 :: (wClouds ++ (clT cl ++ (59 :: (ckT ck ++ cpT cp)))))))))))) := ⟨rfl, rfl, h, rfl⟩
  have h0 : TK f L (advC f L (g.1, 0, 0, false, -1)) 1 wMoon ([32] ++ (dgL d1 ++ ([32] ++ (dgL d2 ++ ([32] ++ (dgL d3 ++ (59 :: (wClouds ++ (clT cl ++ (59 :: (ckT ck ++ cpT cp))))))))))) := nx_word (B := []) h00 (Or.inl rfl) (by decide) (by decide) (stop_sp (by decide))
  have h0 : TK f L (rd0 f L g) 1 wMoon ([32] ++ (dgL d1 ++ ([32] ++ (dgL d2 ++ ([32] ++ (dgL d3 ++ (59 :: (wClouds ++ (clT cl ++ (59 :: (ckT ck ++ cpT cp))))))))))) := h0
  have t1 : moon1 f L (rd0 f L g) = advC f L (rd0 f L g) := tw h0 (by decide) (by decide)
  have h1 := nx_num (v := d1) (by omega) h0 (Or.inr rfl) (stop_sp (by decide))
  obtain ⟨e1, v1⟩ := tn (a := 1) (b := 14) (by omega) h1 w1 w2 (by decide)
  have t2 : moon2 f L (rd0 f L g) = advC f L (advC f L (rd0 f L g)) := by unfold moon2; rw [t1]; exact e1
  have h2 := nx_num (v := d2) (by omega) h1 (Or.inr rfl) (stop_sp (by decide))
  obtain ⟨e2, v2⟩ := tn (a := 0) (b := 13) (by omega) h2 (Nat.zero_le _) w3 (by decide)
  have t3 : moon3 f L (rd0 f L g) = advC f L (advC f L (advC f L (rd0 f L g))) := by unfold moon3; rw [t2]; exact e2
  have h3 := nx_num (v := d3) (by omega) h2 (Or.inr rfl) (stop_59 (by decide))
  obtain ⟨e3, v3⟩ := tn (a := 0) (b := 7) (by omega) h3 (Nat.zero_le _) w4 (by decide)
  have t4 : moon4 f L (rd0 f L g) = advC f L (advC f L (advC f L (advC f L (rd0 f L g)))) := by unfold moon4; rw [t3]; exact e3
  have h4 := nx_semi h3
  have h5 := nx_word (B := []) (A := wClouds) (M := clT cl ++ (59 :: (ckT ck ++ cpT cp))) h4 (Or.inl rfl) (by decide) (by decide) (stop_wcl (by omega))
  have r1 : rd1 f L (o, g) = (dS (dS (dS (clearC o) 1 (nI d1)) 2 (nI d2)) 3 (nI d3), advC f L (advC f L (advC f L (advC f L (advC f L (rd0 f L g)))))) := by
    unfold rd1 moonC
    rw [show numV f 1 14 (moon1 f L (rd0 f L g)) = nI d1 from by rw [t1]; exact v1, show numV f 0 13 (moon2 f L (rd0 f L g)) = nI d2 from by rw [t2]; exact v2, show numV f 0 7 (moon3 f L (rd0 f L g)) = nI d3 from by rw [t3]; exact v3, t4, ts h4]
  generalize hg5 : advC f L (advC f L (advC f L (advC f L (advC f L (rd0 f L g))))) = g5 at h5 r1
  have hp : PC (dS (dS (dS (clearC o) 1 (nI d1)) 2 (nI d2)) 3 (nI d3)) 0 := by
    refine ⟨rfl, fun j hj => absurd hj (Nat.not_lt_zero j), rfl, rfl, rfl, fun i hi => ?_⟩
    rcases hi with rfl | rfl | rfl
    · exact ⟨d1, w2, rfl⟩
    · exact ⟨d2, by omega, rfl⟩
    · exact ⟨d3, by omega, rfl⟩
  generalize dS (dS (dS (clearC o) 1 (nI d1)) 2 (nI d2)) 3 (nI d3) = o1 at hp r1
  have t5 : takW f L 2 g5 = advC f L g5 := tw h5 (by decide) (by decide)
  have h6 := nxt w7 h5
  cases cl with
  | nil => exact absurd w5 (by decide)
  | cons z c =>
    have h6 : TK f L (advC f L g5) 2 (dgL z) (clT c ++ (59 :: (ckT ck ++ cpT cp))) := h6
    have hz9 := w7 z List.mem_cons_self
    obtain ⟨e6, v6⟩ := tn (a := 0) (b := 9) (by omega) h6 (Nat.zero_le _) hz9 (by decide)
    have e7 : cl1 f L 0 (o1, takW f L 2 g5) = (addCl o1 0 (nI z), advC f L (advC f L g5)) := by
      unfold cl1
      rw [t5, show numV f 0 9 (advC f L g5) = nI z from v6, show takN f L 0 9 (advC f L g5) = advC f L (advC f L g5) from e6]
    have w6 : c.length + 1 ≤ 8 := w6
    obtain ⟨s2, g1, g2, g3⟩ := clL_run (f := f) (L := L) (M := ckT ck ++ cpT cp) c 9 1 (addCl o1 0 (nI z), advC f L (advC f L g5)) (nxt (fun y hy => w7 y (List.mem_cons_of_mem _ hy)) h6) (fun y hy => w7 y (List.mem_cons_of_mem _ hy)) (by omega) (hp.add hz9)
    have r2 : (rd2 f L (o, g)).2 = (s2.1, advC f L s2.2) := by
      unfold rd2 cloudsC
      rw [r1]
      show ((clL f L 9 1 (cl1 f L 0 (o1, takW f L 2 g5))).2.1, takS f L (clL f L 9 1 (cl1 f L 0 (o1, takW f L 2 g5))).2.2) = _
      rw [e7, g1, ts g2]
    have hov : OV s2.1 0 0 (z :: c).length 0 := by
      rw [show (z :: c).length = 1 + c.length by show c.length + 1 = _; omega]
      exact g3.ov (by omega) (by omega)
    obtain ⟨s3, k1, k2, k3⟩ := ckL_run (cp := cp) ck 5 0 (s2.1, advC f L s2.2) (nx_ent g2) w9 (by omega) (by omega) hov
    have r3 : (rd3 f L (o, g)).2 = s3 := by unfold rd3; rw [r2, k1]
    rw [Nat.zero_add] at k3
    obtain ⟨s4, m1, m2, m3⟩ := coL_run cp 24 0 s3 k2 (fun k y hy => by rw [Nat.zero_add]; exact w11 k y hy) (by omega) (by omega) k3 (fun k hk => absurd hk (Nat.not_lt_zero k))
    have r4 : (rd4 f L (o, g)).2 = s4 := by unfold rd4; rw [r3, m1]
    rw [Nat.zero_add] at m3
    refine ⟨?_, by rw [r4]; exact m3⟩
    unfold rd5
    rw [r4, if_pos m2.1]
    exact m2.2.2.2
end PRS
