/-! the class's reader over a text given as a list -/
def AT (f : Nat → Int32) (L k : Nat) (M : List Nat) : Prop := k + M.length = L ∧ ∀ i, i < M.length → f (k + i) = nI (M.getD i 0)
section TOK
variable {f : Nat → Int32} {L k : Nat}
theorem AT.drop {A M : List Nat} (h : AT f L k (A ++ M)) : AT f L (k + A.length) M := by
  obtain ⟨h1, h2⟩ := h
  rw [List.length_append] at h1
  refine ⟨by omega, fun i hi => ?_⟩
  have h3 := h2 (A.length + i) (by rw [List.length_append]; omega)
  rw [show k + (A.length + i) = k + A.length + i by omega] at h3
  rw [h3, List.getD_eq_getElem?_getD, List.getD_eq_getElem?_getD, List.getElem?_append_right (by omega), show A.length + i - A.length = i by omega]
theorem AT.head {c : Nat} {M : List Nat} (h : AT f L k (c :: M)) : f k = nI c ∧ k < L := by
  obtain ⟨h1, h2⟩ := h
  have h1 : k + (M.length + 1) = L := h1
  exact ⟨h2 0 (Nat.zero_lt_succ _), by omega⟩
theorem AT.tail {c : Nat} {M : List Nat} (h : AT f L k (c :: M)) : AT f L (k + 1) M := AT.drop (A := [c]) h
theorem AT.at {A M : List Nat} (h : AT f L k (A ++ M)) {i : Nat} (hi : i < A.length) : f (k + i) = nI (A.getD i 0) := by
  rw [h.2 i (by rw [List.length_append]; omega), List.getD_eq_getElem?_getD, List.getD_eq_getElem?_getD, List.getElem?_append_left hi]
/-- where a run of letters of a kind ends -/
def stopB (p : Int32 → Bool) (M : List Nat) : Prop := ∀ c M', M = c :: M' → p (nI c) = false
theorem run_list {p : Int32 → Bool} : ∀ {A M : List Nat} {k : Nat}, AT f L k (A ++ M) → (∀ c ∈ A, p (nI c) = true) → stopB p M → runN p f (L - k) k = k + A.length
  | [], [], k, h, _, _ => runN_done (by have h9 : k + 0 = L := h.1; omega)
  | [], c :: M, k, h, _, hs => runN_stop (by rw [(AT.head (M := M) h).1]; exact hs c M rfl)
  | c :: A, M, k, h, hA, hs => by
    obtain ⟨h1, h2⟩ := AT.head (M := A ++ M) h
    rw [runN_step h2 (by rw [h1]; exact hA c List.mem_cons_self), run_list (AT.tail (M := A ++ M) h) (fun z hz => hA z (List.mem_cons_of_mem _ hz)) hs]
    show k + 1 + A.length = k + (A.length + 1)
    omega
/-- the reader stands at a token -/
def TK (f : Nat → Int32) (L : Nat) (g : CSt) (kd : Int32) (A M : List Nat) : Prop := g.1 = kd ∧ g.2.2.1 = g.2.1 + A.length ∧ AT f L g.2.1 (A ++ M) ∧ g.2.2.2.1 = false
variable {g : CSt} {kd : Int32} {A0 : List Nat}
def BLK (B : List Nat) : Prop := B = [] ∨ B = [32]
theorem BLK.all {B : List Nat} (h : BLK B) : ∀ c ∈ B, blankB (nI c) = true := by
  rcases h with rfl | rfl
  · exact fun c h => absurd h List.not_mem_nil
  · intro c hc; obtain rfl := List.mem_singleton.mp hc; decide
theorem letter_ok : ∀ c, c < 128 → (smallB (nI c) = decide (97 ≤ c ∧ c ≤ 122) ∧ digB (nI c) = decide (48 ≤ c ∧ c ≤ 57) ∧ (97 ≤ c ∧ c ≤ 122 ∨ 48 ≤ c ∧ c ≤ 59 → blankB (nI c) = false)) := by decide +kernel
theorem nx_at {M0 : List Nat} (h : TK f L g kd A0 M0) : AT f L g.2.2.1 M0 := by rw [h.2.1]; exact h.2.2.1.drop
theorem nx_word {B A M : List Nat} (h : TK f L g kd A0 (B ++ (A ++ M))) (hB : BLK B) (hA : A ≠ []) (hA2 : ∀ c ∈ A, 97 ≤ c ∧ c ≤ 122) (hM : stopB smallB M) : TK f L (advC f L g) 1 A M := by
  have h0 := nx_at h
  have h1 := h0.drop
  have hs : ∀ c ∈ A, smallB (nI c) = true := fun c hc => by
    have := hA2 c hc
    rw [(letter_ok c (by omega)).1]; exact decide_eq_true this
  cases A with
  | nil => exact absurd rfl hA
  | cons c A' =>
    have hc := hA2 c List.mem_cons_self
    have hb : runN blankB f (L - g.2.2.1) g.2.2.1 = g.2.2.1 + B.length := run_list h0 hB.all (fun z M' e => by cases e; exact (letter_ok c (by omega)).2.2 (Or.inl hc))
    obtain ⟨e1, e2⟩ := AT.head (M := A' ++ M) h1
    have ht := tkR_word hb (by omega) (by rw [e1]; exact hs c List.mem_cons_self)
    have hr : (wordF f (g.2.2.1 + B.length) (L - (g.2.2.1 + B.length)) (g.2.2.1 + B.length) 0).1 = g.2.2.1 + B.length + (c :: A').length := wordF_at.trans (run_list h1 hs hM)
    refine ⟨?_, ?_, ?_, h.2.2.2⟩
    · show (tkR f L g.2.2.1).2.2.1 = 1; rw [ht]
    · show (tkR f L g.2.2.1).2.1 = (tkR f L g.2.2.1).1 + _; rw [ht]; exact hr
    · show AT f L (tkR f L g.2.2.1).1 _; rw [ht]; exact h1
theorem dgL_dig {v : Nat} (hv : v ≤ 99) : ∀ c ∈ dgL v, 48 ≤ c ∧ c ≤ 57 := by
  intro c hc
  unfold dgL at hc
  split at hc
  · obtain rfl := List.mem_singleton.mp hc; omega
  · rcases List.mem_cons.mp hc with rfl | hc
    · omega
    · obtain rfl := List.mem_singleton.mp hc; omega
theorem nx_num {B M : List Nat} {v : Nat} (hv : v ≤ 99) (h : TK f L g kd A0 (B ++ (dgL v ++ M))) (hB : BLK B) (hM : stopB digB M) : TK f L (advC f L g) 2 (dgL v) M := by
  have h0 := nx_at h
  have h1 := h0.drop
  have hd := dgL_dig hv
  have hs : ∀ c ∈ dgL v, digB (nI c) = true := fun c hc => by
    have := hd c hc
    rw [(letter_ok c (by omega)).2.1]; exact decide_eq_true this
  have hn : ∀ c ∈ dgL v, smallB (nI c) = false := fun c hc => by
    have := hd c hc
    rw [(letter_ok c (by omega)).1]; exact decide_eq_false (by omega)
  have hlen : (dgL v).length ≤ 2 := by rw [dgL_len]; exact dgN_2 v
  generalize hD : dgL v = A at *
  cases A with
  | nil => unfold dgL at hD; split at hD <;> cases hD
  | cons c A' =>
    have hc := hd c List.mem_cons_self
    have hb : runN blankB f (L - g.2.2.1) g.2.2.1 = g.2.2.1 + B.length := run_list h0 hB.all (fun z M' e => by cases e; exact (letter_ok c (by omega)).2.2 (Or.inr (by omega)))
    obtain ⟨e1, e2⟩ := AT.head (M := A' ++ M) h1
    have ht := tkR_num hb (by omega) (by rw [e1]; exact hn c List.mem_cons_self) (by rw [e1]; exact hs c List.mem_cons_self)
    have hr : (numF f (g.2.2.1 + B.length) (L - (g.2.2.1 + B.length)) (g.2.2.1 + B.length) 0).1 = g.2.2.1 + B.length + (c :: A').length := numF_at.trans (run_list h1 hs hM)
    refine ⟨?_, ?_, ?_, h.2.2.2⟩
    · show (tkR f L g.2.2.1).2.2.1 = 2; rw [ht]
      show (if 2 < _ - _ then _ else _) = _
      rw [hr, if_neg (by omega)]
    · show (tkR f L g.2.2.1).2.1 = (tkR f L g.2.2.1).1 + _; rw [ht]; exact hr
    · show AT f L (tkR f L g.2.2.1).1 _; rw [ht]; exact h1
theorem nx_semi {M : List Nat} (h : TK f L g kd A0 (59 :: M)) : TK f L (advC f L g) 3 [59] M := by
  have h0 := nx_at h
  obtain ⟨e1, e2⟩ := h0.head
  have hb : runN blankB f (L - g.2.2.1) g.2.2.1 = g.2.2.1 := runN_stop (by rw [e1]; decide)
  have ht := tkR_other hb (by omega) (by rw [e1]; decide) (by rw [e1]; decide)
  refine ⟨?_, ?_, ?_, h.2.2.2⟩
  · show (tkR f L g.2.2.1).2.2.1 = 3; rw [ht]; exact if_pos e1
  · show (tkR f L g.2.2.1).2.1 = (tkR f L g.2.2.1).1 + _; rw [ht]; rfl
  · show AT f L (tkR f L g.2.2.1).1 _; rw [ht]; exact h0
theorem nx_end (h : TK f L g kd A0 []) : TK f L (advC f L g) 0 [] [] := by
  have h0 := nx_at h
  have hk : g.2.2.1 = L := by have h9 : g.2.2.1 + 0 = L := h0.1; omega
  have hb : runN blankB f (L - g.2.2.1) g.2.2.1 = g.2.2.1 := runN_done (by omega)
  have ht := tkR_end hb hk
  refine ⟨?_, ?_, ?_, h.2.2.2⟩
  · show (tkR f L g.2.2.1).2.2.1 = 0; rw [ht]
  · show (tkR f L g.2.2.1).2.1 = (tkR f L g.2.2.1).1 + _; rw [ht]; rfl
  · show AT f L (tkR f L g.2.2.1).1 _; rw [ht]; exact h0
/-- what a token says -/
theorem eqF_all {st : Nat} {w : Nat → Int32} : ∀ {n i : Nat}, (∀ j, i ≤ j → j < i + n → f (st + j) = w j) → eqF f st w n i = true
  | 0, _, _ => rfl
  | n + 1, i, h => by
    show (if f (st + i) = w i then eqF f st w n (i + 1) else false) = true
    rw [if_pos (h i (Nat.le_refl _) (by omega))]
    exact eqF_all (fun j h1 h2 => h j (by omega) (by omega))
theorem eqF_no {st : Nat} {w : Nat → Int32} {z : Nat} (hz : ¬ f (st + z) = w z) : ∀ {n i : Nat}, i ≤ z → z < i + n → eqF f st w n i = false
  | 0, _, h1, h2 => by omega
  | n + 1, i, h1, h2 => by
    show (if f (st + i) = w i then eqF f st w n (i + 1) else false) = false
    by_cases e : i = z
    · subst e; exact if_neg hz
    · split
      · exact eqF_no hz (by omega) (by omega)
      · rfl
theorem word_t {A M : List Nat} {i : Nat} (h : TK f L g 1 A M) (hl : A.length = litN i) (hw : ∀ j, j < A.length → litF i j = nI (A.getD j 0)) : wordC f i g = true := by
  unfold wordC
  rw [h.1, h.2.1, show g.2.1 + A.length - g.2.1 = litN i by omega, decide_eq_true rfl, decide_eq_true rfl, eqF_all (fun j h1 h2 => by rw [h.2.2.1.at (i := j) (by omega), hw j (by omega)])]
  rfl
theorem word_f {A M : List Nat} {i : Nat} (h : TK f L g kd A M) (hn : ¬ kd = 1 ∨ ¬ A.length = litN i ∨ ∃ z, z < A.length ∧ ¬ nI (A.getD z 0) = litF i z) : wordC f i g = false := by
  unfold wordC
  rw [h.1, h.2.1, show g.2.1 + A.length - g.2.1 = A.length by omega]
  rcases hn with hn | hn | ⟨z, hz, hn⟩
  · rw [decide_eq_false hn]; rfl
  · rw [decide_eq_false hn]; simp
  · by_cases hl : A.length = litN i
    · rw [eqF_no (z := z) (by rw [h.2.2.1.at hz]; exact hn) (Nat.zero_le _) (by omega)]; simp
    · rw [decide_eq_false hl]; simp
theorem num_v {M : List Nat} {v : Nat} (hv : v ≤ 99) (h : TK f L g 2 (dgL v) M) : numC f g = nI v := by
  have hA : ∀ v, v < 100 → (v < 10 → (0 : Int32) * 10 + nI (48 + v) - 48 = nI v) ∧ (¬ v < 10 → ((0 : Int32) * 10 + nI (48 + v / 10) - 48) * 10 + nI (48 + v % 10) - 48 = nI v) := by decide +kernel
  unfold numC
  rw [if_pos h.1, h.2.1, show g.2.1 + (dgL v).length - g.2.1 = (dgL v).length by omega]
  by_cases hv10 : v < 10
  · have h9 := h.2.2.1
    rw [dgL_1 hv10] at h9 ⊢
    have e0 := h9.at (i := 0) (A := [48 + v]) (by simp)
    show (0 : Int32) * 10 + f g.2.1 - 48 = nI v
    rw [show f g.2.1 = nI (48 + v) from e0]
    exact (hA v (by omega)).1 hv10
  · have h9 := h.2.2.1
    rw [dgL_2 hv10] at h9 ⊢
    have e0 := h9.at (i := 0) (A := [48 + v / 10, 48 + v % 10]) (by simp)
    have e1 := h9.at (i := 1) (A := [48 + v / 10, 48 + v % 10]) (by simp)
    show ((0 : Int32) * 10 + f g.2.1 - 48) * 10 + f (g.2.1 + 1) - 48 = nI v
    rw [show f g.2.1 = nI (48 + v / 10) from e0, show f (g.2.1 + 1) = nI (48 + v % 10) from e1]
    exact (hA v (by omega)).2 hv10
end TOK
