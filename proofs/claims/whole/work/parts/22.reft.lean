/-! the reference's text: its loops as functions -/
def whileN {α : Type} (c : α → Bool) (g : α → α) : Nat → α → α
  | 0, s => s
  | n + 1, s => if c s then whileN c g n (g s) else s
theorem whileN_step {α : Type} {c : α → Bool} {g : α → α} {n : Nat} {s : α} (h : 0 < n) (hc : c s = true) : whileN c g n s = whileN c g (n - 1) (g s) := by
  obtain ⟨m, rfl⟩ : ∃ m, n = m + 1 := ⟨n - 1, by omega⟩
  show (if c s then _ else _) = _
  rw [if_pos hc]; rfl
theorem whileN_done {α : Type} {c : α → Bool} {g : α → α} {n : Nat} {s : α} (hc : c s = false) : whileN c g n s = s := by
  cases n with
  | zero => rfl
  | succ n =>
    show (if c s then _ else _) = _
    rw [hc]; rfl
def condC (s : RSt) : Bool := !s.2.2.2.2.2.2.2.1 && decide (s.2.2.2.2.1 = 2)
def condK (s : RSt) : Bool := !s.2.2.2.2.2.2.2.1 && wordB s.2.2 1834661
def condN (s : RSt) : Bool := !s.2.2.2.2.2.2.2.1 && wordB s.2.2 1009466360291
theorem cloudR_le {f : Nat → Int32} {L : Nat} {s : RSt} (h : s.2.2.1 ≤ L) : (cloudR f L s).2.2.1 ≤ L := by
  unfold cloudR; split <;> exact takesP_le h
theorem clerkR_le {f : Nat → Int32} {L : Nat} {s : RSt} (h : s.2.2.1 ≤ L) : (clerkR f L s).2.2.1 ≤ L := by
  have h3 : (clerk3 f L s).1 ≤ L := numS_le (numS_le (takesP_le h))
  unfold clerkR; split <;> exact tkK_le h3
theorem compR_le {f : Nat → Int32} {L : Nat} {s : RSt} (h : s.2.2.1 ≤ L) : (compR f L s).2.2.1 ≤ L := by
  have h3 : (comp4 f L s).1 ≤ L := numS_le (takesP_le (numS_le (takesP_le h)))
  unfold compR; split <;> exact tkK_le h3
theorem cloudR_10 {f : Nat → Int32} {L : Nat} {s : RSt} (h : s.1 ≤ 10) : (cloudR f L s).1 ≤ 10 := by
  unfold cloudR; split
  · rename_i h2
    have : s.1 < 10 := by simp [cloudB] at h2; omega
    exact this
  · exact h
theorem clerkR_5 {f : Nat → Int32} {L : Nat} {s : RSt} (h : s.1 ≤ 5) : (clerkR f L s).1 ≤ 5 := by
  unfold clerkR; split
  · rename_i h2
    exact clerk_lt h2
  · exact h
theorem compR_24 {f : Nat → Int32} {L : Nat} {s : RSt} (h : s.1 ≤ 24) : (compR f L s).1 ≤ 24 := by
  unfold compR; split
  · rename_i h2
    exact comp_lt h2
  · exact h
theorem cloudR_n {f : Nat → Int32} {L : Nat} {s : RSt} (h : s.2.1 4 = nI s.1) : (cloudR f L s).2.1 4 = nI (cloudR f L s).1 := by
  unfold cloudR; split
  · show (va_up s.2.1 (9 + s.1) s.2.2.2.2.2.1) 4 + 1 = nI (s.1 + 1)
    rw [va_up_ne _ _ (by omega), h]; exact nI_1 _
  · exact h
theorem clerkR_n {f : Nat → Int32} {L : Nat} {s : RSt} (h : s.2.1 5 = nI s.1) : (clerkR f L s).2.1 5 = nI (clerkR f L s).1 := by
  unfold clerkR; split
  · show (va_up (va_up (va_up s.2.1 (19 + 3 * s.1) _) (19 + 3 * s.1 + 1) _) (19 + 3 * s.1 + 2) 0) 5 + 1 = nI (s.1 + 1)
    rw [va_up_ne _ _ (by omega), va_up_ne _ _ (by omega), va_up_ne _ _ (by omega), h]; exact nI_1 _
  · exact h
theorem compR_n {f : Nat → Int32} {L : Nat} {s : RSt} (h : s.2.1 6 = nI s.1) : (compR f L s).2.1 6 = nI (compR f L s).1 := by
  unfold compR; split
  · show rFiles7 s.2.1 s.1 _ _ _ 6 + 1 = nI (s.1 + 1)
    unfold rFiles7
    rw [va_up_ne _ _ (by omega), va_up_ne _ _ (by omega), va_up_ne _ _ (by omega), va_up_ne _ _ (by omega), va_up_ne _ _ (by omega), va_up_ne _ _ (by omega), va_up_ne _ _ (by omega), h]; exact nI_1 _
  · exact h
theorem cloudR_k {f : Nat → Int32} {L : Nat} {s : RSt} {i : Nat} (h : i = 5 ∨ i = 6) : (cloudR f L s).2.1 i = s.2.1 i := by
  unfold cloudR; split
  · show rAddsCloud s.2.1 s.1 s.2.2.2.2.2.1 i = s.2.1 i
    unfold rAddsCloud
    rw [va_up_ne _ _ (by omega), va_up_ne _ _ (by omega)]
  · rfl
theorem clerkR_k {f : Nat → Int32} {L : Nat} {s : RSt} : (clerkR f L s).2.1 6 = s.2.1 6 := by
  unfold clerkR; split
  · show rAddsClerk s.2.1 s.1 _ _ 6 = s.2.1 6
    unfold rAddsClerk
    repeat rw [va_up_ne _ _ (by omega)]
  · rfl
theorem cloudR_ok {f : Nat → Int32} {L : Nat} {s : RSt} (h : (cloudR f L s).2.2.2.2.2.2.2.1 = false) : (cloudR f L s).1 = s.1 + 1 := by
  have e : (cloudR f L s).2.2 = takesP f L (cloudB s) s.2.2 := by unfold cloudR; split <;> rfl
  rw [e] at h
  have h2 := takesP_ok h
  unfold cloudR
  rw [if_pos (by rw [h2.1, h2.2]; rfl)]
theorem clerkR_ok {f : Nat → Int32} {L : Nat} {s : RSt} (h : (clerkR f L s).2.2.2.2.2.2.2.1 = false) : (clerkR f L s).1 = s.1 + 1 := by
  have e : (clerkR f L s).2.2 = tkK f L 3 (clerk3 f L s) := by unfold clerkR; split <;> rfl
  rw [e] at h
  have h2 := takesP_ok h
  unfold clerkR
  rw [if_pos (by rw [h2.1, h2.2]; rfl)]
theorem compR_ok {f : Nat → Int32} {L : Nat} {s : RSt} (h : (compR f L s).2.2.2.2.2.2.2.1 = false) : (compR f L s).1 = s.1 + 1 := by
  have e : (compR f L s).2.2 = tkK f L 3 (comp4 f L s) := by unfold compR; split <;> rfl
  rw [e] at h
  have h2 := takesP_ok h
  unfold compR
  rw [if_pos (by rw [h2.1, h2.2]; rfl)]
def tx1 (f : Nat → Int32) (L : Nat) (g : PSt) : PSt := tkW f L 267233 g
def tx2 (f : Nat → Int32) (L : Nat) (g : PSt) : PSt := numS f L 1 14 (tx1 f L g)
def tx3 (f : Nat → Int32) (L : Nat) (g : PSt) : PSt := numS f L 0 13 (tx2 f L g)
def tx4 (f : Nat → Int32) (L : Nat) (g : PSt) : PSt := numS f L 0 7 (tx3 f L g)
def tx5 (f : Nat → Int32) (L : Nat) (g : PSt) : PSt := tkK f L 3 (tx4 f L g)
def tx6 (f : Nat → Int32) (L : Nat) (g : PSt) : PSt := tkW f L 49734694 (tx5 f L g)
def txD (f : Nat → Int32) (L : Nat) (d : Nat → Int32) (g : PSt) : Nat → Int32 := va_up (va_up (va_up d 1 (numP 1 14 (tx1 f L g))) 2 (numP 0 13 (tx2 f L g))) 3 (numP 0 7 (tx3 f L g))
def tc1 (f : Nat → Int32) (L : Nat) (d : Nat → Int32) (g : PSt) : RSt := cloudR f L (0, txD f L d g, tx6 f L g)
def tc2 (f : Nat → Int32) (L : Nat) (d : Nat → Int32) (g : PSt) : RSt := whileN condC (cloudR f L) 13 (tc1 f L d g)
def tc3 (f : Nat → Int32) (L : Nat) (d : Nat → Int32) (g : PSt) : PSt := tkK f L 3 (tc2 f L d g).2.2
def tk1 (f : Nat → Int32) (L : Nat) (d : Nat → Int32) (g : PSt) : RSt := whileN condK (clerkR f L) 7 (0, (tc2 f L d g).2.1, tc3 f L d g)
def tn1 (f : Nat → Int32) (L : Nat) (d : Nat → Int32) (g : PSt) : RSt := whileN condN (compR f L) 26 (0, (tk1 f L d g).2.1, (tk1 f L d g).2.2)
def txE (p : PSt) : PSt := if !p.2.2.2.2.2.1 && !decide (p.2.2.1 = 0) then failP p else p
def txR (f : Nat → Int32) (L : Nat) (d : Nat → Int32) (g : PSt) : (Nat → Int32) × PSt := ((tn1 f L d g).2.1, txE (tn1 f L d g).2.2)
theorem txE_t {p : PSt} (h1 : p.2.2.2.2.2.1 = false) (h2 : ¬ p.2.2.1 = 0) {f : Nat → Int32} {L : Nat} : txE p = takesP f L false p := by
  unfold txE; rw [h1, takesP_f h1 rfl, if_pos (by simp [h2])]
theorem txE_w {p : PSt} (h1 : p.2.2.2.2.2.1 = true) : txE p = p := by
  unfold txE; rw [h1]; rfl
theorem txE_0 {p : PSt} (h2 : p.2.2.1 = 0) : txE p = p := by
  unfold txE; rw [if_neg (by simp [h2])]
theorem tx_le {f : Nat → Int32} {L : Nat} {d : Nat → Int32} {g : PSt} (h : g.1 ≤ L) : (tx1 f L g).1 ≤ L ∧ (tx2 f L g).1 ≤ L ∧ (tx3 f L g).1 ≤ L ∧ (tx4 f L g).1 ≤ L ∧ (tx5 f L g).1 ≤ L ∧ (tx6 f L g).1 ≤ L := by
  have h1 : (tx1 f L g).1 ≤ L := tkW_le h
  have h2 : (tx2 f L g).1 ≤ L := numS_le h1
  have h3 : (tx3 f L g).1 ≤ L := numS_le h2
  have h4 : (tx4 f L g).1 ≤ L := numS_le h3
  have h5 : (tx5 f L g).1 ≤ L := tkK_le h4
  exact ⟨h1, h2, h3, h4, h5, tkW_le h5⟩
theorem whileN_eta {c : RSt → Bool} {g : RSt → RSt} {n : Nat} (s : RSt) : whileN c g n (s.1, s.2.1, s.2.2) = whileN c g n s := rfl
theorem tc2_eta {f : Nat → Int32} {L : Nat} {d : Nat → Int32} {g : PSt} : whileN condC (cloudR f L) 13 ((tc1 f L d g).1, (tc1 f L d g).2.1, (tc1 f L d g).2.2) = tc2 f L d g := by
  unfold tc2; exact whileN_eta _
theorem tk1_eq {f : Nat → Int32} {L : Nat} {d : Nat → Int32} {g : PSt} : whileN condK (clerkR f L) 7 (0, (tc2 f L d g).2.1, tc3 f L d g) = tk1 f L d g := by
  unfold tk1; exact rfl
theorem tn1_eq {f : Nat → Int32} {L : Nat} {d : Nat → Int32} {g : PSt} : whileN condN (compR f L) 26 (0, (tk1 f L d g).2.1, (tk1 f L d g).2.2) = tn1 f L d g := by
  unfold tn1; exact rfl
theorem tc1_le {f : Nat → Int32} {L : Nat} {d : Nat → Int32} {g : PSt} (h : g.1 ≤ L) : (tc1 f L d g).2.2.1 ≤ L := by
  unfold tc1; exact cloudR_le (tx_le (d := d) h).2.2.2.2.2
theorem tc1_n {f : Nat → Int32} {L : Nat} {d : Nat → Int32} {g : PSt} (h : d 4 = nI 0) : (tc1 f L d g).2.1 4 = nI (tc1 f L d g).1 := by
  unfold tc1; exact cloudR_n (show txD f L d g 4 = nI 0 by unfold txD; rw [va_up_ne _ _ (by omega), va_up_ne _ _ (by omega), va_up_ne _ _ (by omega), h])
theorem tc1_10 {f : Nat → Int32} {L : Nat} {d : Nat → Int32} {g : PSt} : (tc1 f L d g).1 ≤ 10 := by
  unfold tc1; exact cloudR_10 (Nat.zero_le _)
theorem tc1_k {f : Nat → Int32} {L : Nat} {d : Nat → Int32} {g : PSt} {i : Nat} (hi : i = 5 ∨ i = 6) (h : d i = nI 0) : (tc1 f L d g).2.1 i = nI 0 := by
  unfold tc1; rw [cloudR_k hi]
  show txD f L d g i = nI 0
  unfold txD; rw [va_up_ne _ _ (by omega), va_up_ne _ _ (by omega), va_up_ne _ _ (by omega), h]
theorem tc3_le {f : Nat → Int32} {L : Nat} {d : Nat → Int32} {g : PSt} (h : (tc2 f L d g).2.2.1 ≤ L) : (tc3 f L d g).1 ≤ L := by
  unfold tc3; exact tkK_le h
theorem rs_eta {s t : RSt} {a : Nat} {d : Nat → Int32} {p : PSt} (h : (a, d, p) = t) : a = t.1 ∧ d = t.2.1 ∧ p = t.2.2 := by
  subst h; exact ⟨rfl, rfl, rfl⟩
theorem PARW_s0 (T : Nat → ClassId) (b : Nat → Nat) (y : Nat → Nat → Int32) (g : PSt) (k : Nat) (x : Int32) : (PARW T b y g).set 2 (b 2, .inl (T 0, 202, .inl (va_up (y 2) k x))) = PARW T b (va_up y 2 (va_up (y 2) k x)) g := rfl
theorem PARW_st (T : Nat → ClassId) (b : Nat → Nat) (y : Nat → Nat → Int32) (g : PSt) (d2 : Nat → Int32) (k : Nat) (x : Int32) : (PARW T b (va_up y 2 d2) g).set 2 (b 2, .inl (T 0, 202, .inl (va_up (va_up y 2 d2 2) k x))) = PARW T b (va_up y 2 (va_up d2 k x)) g := rfl
theorem PARW_uu (T : Nat → ClassId) (b : Nat → Nat) (y : Nat → Nat → Int32) (d d2 : Nat → Int32) (g : PSt) : PARW T b (va_up (va_up y 2 d) 2 d2) g = PARW T b (va_up y 2 d2) g := rfl
theorem up27 (y : Nat → Nat → Int32) (d : Nat → Int32) : (va_up y 2 d) 7 = y 7 := rfl
theorem up22 (y : Nat → Nat → Int32) (d : Nat → Int32) : (va_up y 2 d) 2 = d := rfl
theorem tc1_is (f : Nat → Int32) (L : Nat) (d : Nat → Int32) (g : PSt) : cloudR f L (0, txD f L d g, tx6 f L g) = tc1 f L d g := rfl
theorem txD_is (f : Nat → Int32) (L : Nat) (d : Nat → Int32) (g : PSt) : va_up (va_up (va_up d 1 (numP 1 14 (tx1 f L g))) 2 (numP 0 13 (tx2 f L g))) 3 (numP 0 7 (tx3 f L g)) = txD f L d g := rfl
