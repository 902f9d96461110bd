/-! a call's two answers alike -/
def STEP (CD : Option String) (e1 : String) (V R : Int64) (t : Int32) (G1 G2 : Prop) : Prop := (CD = none → t = 0 ∧ V = R ∧ G1) ∧ ∀ E, CD = some E → t = kC e1 (some E) ∧ G2
theorem STEP.ok {e1 : String} {V R : Int64} {t : Int32} {G1 G2 : Prop} (ht : t = 0) (hV : V = R) (hG : G1) : STEP none e1 V R t G1 G2 := ⟨fun _ => ⟨ht, hV, hG⟩, fun E h => by cases h⟩
theorem STEP.bad {E e1 : String} {V R : Int64} {t : Int32} {G1 G2 : Prop} (ht : t = kC e1 (some E)) (hG : G2) : STEP (some E) e1 V R t G1 G2 := ⟨fun h => by (cases h), fun E' h => by obtain rfl := Option.some.inj h; exact ⟨ht, hG⟩⟩
theorem rg_1 {z : Int32} {n : Nat} (hn : n < 2 ^ 19) (h : rg z 1 (nI n) = true) : ∃ q, (0 < q ∧ q ≤ n) ∧ z = nI q := by
  unfold rg at h
  rw [Bool.and_eq_true, decide_eq_true_eq, decide_eq_true_eq] at h
  have h0 : (0 : Int32) ≤ z := Int32.le_trans (by decide) h.1
  obtain ⟨q, hq, e, -⟩ := rg_nat (z := z) hn (by unfold rg; rw [decide_eq_true h0, decide_eq_true h.2]; rfl)
  refine ⟨q, ⟨?_, hq⟩, e⟩
  have h1 := h.1
  rw [e, Int32.le_iff_toInt_le, nI_toInt (by omega), show (1 : Int32).toInt = 1 from by decide] at h1
  omega
theorem oil_min (x w : Nat) (hx : x ≤ 99) (hw : w ≤ 99) : (if nI x + nI w < 99 then nI x + nI w else (99 : Int32)) = nI (if x + w < 99 then x + w else 99) ∧ (if 99 < nI x + nI w then (99 : Int32) else nI x + nI w) = nI (if x + w < 99 then x + w else 99) := by
  rw [nI_add]
  have h1 : nI (x + w) < nI 99 ↔ x + w < 99 := nI_ltI (by omega) (by omega)
  have h2 : nI 99 < nI (x + w) ↔ 99 < x + w := nI_ltI (by omega) (by omega)
  have h1 : nI (x + w) < 99 ↔ x + w < 99 := h1
  have h2 : 99 < nI (x + w) ↔ 99 < x + w := h2
  constructor
  · by_cases c : x + w < 99
    · rw [if_pos (h1.mpr c), if_pos c]
    · rw [if_neg (fun q => c (h1.mp q)), if_neg c]; rfl
  · by_cases c : 99 < x + w
    · rw [if_pos (h2.mpr c), if_neg (by omega)]; rfl
    · rw [if_neg (fun q => c (h2.mp q))]
      by_cases c2 : x + w < 99
      · rw [if_pos c2]
      · rw [if_neg c2, show x + w = 99 by omega]
section RQ
variable {o : Nat → Nat → Int32} {r : Nat → Int32} {N K C nt : Nat}
theorem VI.ang0 (h : VI r N K nt) {k : Nat} (hk : k < N) : (0 : Int32) < r (34 + 7 * k + 2) := by
  obtain ⟨z, h1, h2, h3⟩ := h.ang k hk
  rw [h3, Int32.lt_iff_toInt_lt, nI_toInt (by omega), show (0 : Int32).toInt = 0 from by decide]
  omega
theorem most15 (h : RO o r N K C) (hs : ∀ k, k < N → ∃ q, q < 4 ∧ r (34 + 7 * k + 1) = nI q) (ha : ∀ k, k < N → (0 : Int32) < r (34 + 7 * k + 2)) : mostC o 15 N = angR0 r N := by
  rw [mostC, maxF_best (fun k _ hk _ => by rw [show o 6 k = r (34 + 7 * k + 2) from h.p k (by omega) 2 (by decide)]; exact ha k (by omega))]
  refine bestB_congr (fun j hj => by cases hj) (fun k _ hk => ?_) (fun k j _ hk hj => ?_)
  · have hk : k < N := by omega
    obtain ⟨q, hq, e⟩ := hs k hk
    have hb : ∀ q, q < 4 → decide (((15 : Int32) >>> (nI q &&& 31)) &&& 1 = 1) = true := by decide +kernel
    rw [show o 8 k = r (34 + 7 * k + 4) from h.p k hk 4 (by decide), show o 5 k = r (34 + 7 * k + 1) from h.p k hk 1 (by decide), e, hb q hq, Bool.and_true]
  · rw [show o 6 k = r (34 + 7 * k + 2) from h.p k (by omega) 2 (by decide), show o 6 j = r (34 + 7 * j + 2) from h.p j (by omega) 2 (by decide)]
theorem dark_R (h : RO o r N K C) (hK : K ≤ 5) (hoil : ∀ j, j < K → ∃ z, z ≤ 99 ∧ r (19 + 3 * j + 1) = nI z) : (minF (fun _ => true) (o 3) K 0 (none, 100)).1 = if K = 0 then none else some (darkR r K) := by
  rw [minF_best (fun k _ hk _ => ?_)]
  · cases K with
    | zero => rfl
    | succ K =>
      rw [if_neg (by omega)]
      have := iter_rel (f := bstep (fun _ => true) (fun k j => decide (o 3 k < o 3 j))) (g := fun k b => if r (19 + 3 * k + 1) < r (19 + 3 * b + 1) then k else b) (fun k (x : Option Nat) b => x = some b ∧ b < k) (n := K) (i := 1) (x := some 0) (y := 0) ⟨rfl, by omega⟩ (by
        rintro k x b h1 h2 ⟨rfl, h4⟩
        have e1 : o 3 k = r (19 + 3 * k + 1) := h.l k (by omega)
        have e2 : o 3 b = r (19 + 3 * b + 1) := h.l b (by omega)
        by_cases c : r (19 + 3 * k + 1) < r (19 + 3 * b + 1)
        · simp [bstep, e1, e2, c]
        · simp [bstep, e1, e2, c]; omega)
      exact this.1
  · obtain ⟨z, hz, e⟩ := hoil k (by omega)
    rw [show o 3 k = r (19 + 3 * k + 1) from h.l k (by omega), e]
    exact (nI_ltI (a := z) (b := 100) (by omega) (by omega)).mpr (by omega)
/-! the written text -/
def SW (s t : (Nat → Int32) × Nat) : Prop := s.2 = t.2 ∧ ∀ j, j < s.2 → t.1 j = s.1 j
theorem SW.put {s t : (Nat → Int32) × Nat} (h : SW s t) (z : Int32) : SW (wPut z s) (wPut z t) := by
  obtain ⟨h1, h2⟩ := h
  refine ⟨?_, fun j hj => ?_⟩
  · show s.2 + 1 = t.2 + 1
    rw [h1]
  · have hj : j < s.2 + 1 := hj
    show va_up t.1 t.2 z j = va_up s.1 s.2 z j
    rw [← h1, up1, up1]
    by_cases e : j = s.2
    · rw [if_pos e, if_pos e]
    · rw [if_neg e, if_neg e]; exact h2 j (by omega)
theorem SW.line {s t : (Nat → Int32) × Nat} (h : SW s t) (k q : Nat) : SW (wLine k q s) (wLine k q t) := by
  unfold wLine
  refine ((((SW.put ?_ _).put _).put _).put _)
  split
  · exact h.put _
  · exact h
theorem write_R (h : RO o r N K C) (z : Int32) (f f' : Nat → Int32) : (iter (wStepC o z) N 0 (f, 0)).2 = (iter (wStepR r z) N 0 (f', 0)).2 ∧ (∀ k, k < (iter (wStepC o z) N 0 (f, 0)).2 → (iter (wStepR r z) N 0 (f', 0)).1 k = (iter (wStepC o z) N 0 (f, 0)).1 k) ∧ (iter (wStepC o z) N 0 (f, 0)).2 ≤ 5 * N := by
  have := iter_rel (f := wStepC o z) (g := wStepR r z) (fun k s t => SW s t ∧ s.2 ≤ 5 * k) (n := N) (i := 0) (x := (f, 0)) (y := (f', 0)) ⟨⟨rfl, fun j hj => absurd hj (Nat.not_lt_zero _)⟩, Nat.le_refl _⟩ (by
    rintro k s t h1 h2 ⟨h3, h4⟩
    have hk : k < N := by omega
    unfold wStepC wStepR
    rw [show o 4 k = r (34 + 7 * k) from h.p k hk 0 (by decide), show o 8 k = r (34 + 7 * k + 4) from h.p k hk 4 (by decide)]
    split
    · refine ⟨h3.line _ _, ?_⟩
      have := wLine_n k (r (34 + 7 * k + 4)).toNatClampNeg s
      omega
    · exact ⟨h3, by omega⟩)
  rw [Nat.zero_add] at this
  exact ⟨this.1.1, this.1.2, this.2⟩
theorem NV.until {y : Nat → Nat → Int32} (h : NV o (y 1) N K C nt) (h9 : nt ≤ 999) {j : Nat} (hj : j < N) : (cUntil N K C j 56 nt o).1 = (rUntil N K C j 57 nt (lay0 y)).1 ∧ ∃ nt', NV (cUntil N K C j 56 nt o).2 (rUntil N K C j 57 nt (lay0 y)).2 N K C nt' := by
  have e : EqR (y 1) (lay0 y) := fun i hi => rLay_0 hi
  have h' := h.eqr e
  obtain ⟨fl, g1, g2, g3⟩ := h'.vi.fl j hj
  exact until_R hj 56 57 nt o (lay0 y) h' (by omega) (by omega) g2 (by omega) (fun _ => by omega)
end RQ
/-! Int32 by its bits: rows of the kit -/
def bt (x : Int32) (i : Nat) : Bool := x.toBitVec.getLsbD i
theorem b_ext {x y : Int32} (h : ∀ i, i < 32 → bt x i = bt y i) : x = y := Int32.toBitVec_inj.mp (BitVec.eq_of_getLsbD_eq (fun i hi => h i hi))
theorem b_and (x y : Int32) (i : Nat) : bt (x &&& y) i = (bt x i && bt y i) := by unfold bt; rw [Int32.toBitVec_and, BitVec.getLsbD_and]
theorem b_255 (i : Nat) (h : i < 32) : bt 255 i = decide (i < 8) := (by decide +kernel : ∀ i, i < 32 → bt 255 i = decide (i < 8)) i h
theorem s_l : ∀ n, n < 32 → ((nI n &&& 31).toBitVec.smod 32).toNat = n := by decide +kernel
theorem s_u : ∀ n, n < 32 → (((nI n).toUInt32 &&& Int32.toUInt32 31).toBitVec % 32).toNat = n := by decide +kernel
theorem b_ushr (n : Nat) (hn : n < 32) (x : Int32) (i : Nat) : bt ((x.toUInt32 >>> ((nI n).toUInt32 &&& Int32.toUInt32 31)).toInt32) i = bt x (n + i) := by
  show (x.toUInt32 >>> ((nI n).toUInt32 &&& Int32.toUInt32 31)).toBitVec.getLsbD i = x.toUInt32.toBitVec.getLsbD (n + i)
  rw [UInt32.toBitVec_shiftRight]
  show (x.toUInt32.toBitVec >>> (((nI n).toUInt32 &&& Int32.toUInt32 31).toBitVec % 32).toNat).getLsbD i = _
  rw [s_u n hn, BitVec.getLsbD_ushiftRight]
theorem b_sshr (n : Nat) (hn : n < 32) (x : Int32) {i : Nat} (hi : i < 32) : bt (x >>> (nI n &&& 31)) i = if n + i < 32 then bt x (n + i) else bt x 31 := by
  unfold bt
  rw [Int32.toBitVec_shiftRight]
  show (x.toBitVec.sshiftRight ((nI n &&& 31).toBitVec.smod 32).toNat).getLsbD i = _
  rw [s_l n hn, BitVec.getLsbD_sshiftRight, BitVec.msb_eq_getLsbD_last]
  simp [hi]
theorem byte_sh {n : Nat} (hn : n ≤ 24) (z : Int32) : (z >>> (nI n &&& 31)) &&& 255 = ((z.toUInt32 >>> ((nI n).toUInt32 &&& Int32.toUInt32 31)).toInt32) &&& 255 := by
  refine b_ext (fun i hi => ?_)
  rw [b_and, b_and, b_255 i hi, b_sshr n (by omega) z hi, b_ushr n (by omega) z i]
  by_cases c : i < 8
  · rw [if_pos (by omega)]
  · rw [decide_eq_false c, Bool.and_false, Bool.and_false]
theorem byte_0 (z : Int32) : (z >>> (nI 0 &&& 31)) &&& 255 = z &&& 255 := by
  refine b_ext (fun i hi => ?_)
  rw [b_and, b_and, b_255 i hi, b_sshr 0 (by omega) z hi, Nat.zero_add, if_pos hi]
theorem byte_nat (x : Int32) : ∃ b, b < 256 ∧ x &&& 255 = nI b := by
  refine ⟨(x.toBitVec &&& 255#32).toNat, ?_, ?_⟩
  · rw [BitVec.toNat_and]
    exact Nat.lt_of_le_of_lt Nat.and_le_right (by decide)
  · apply Int32.toBitVec_inj.mp
    rw [Int32.toBitVec_and]
    show x.toBitVec &&& 255#32 = BitVec.ofNat 32 (x.toBitVec &&& 255#32).toNat
    rw [BitVec.ofNat_toNat, BitVec.setWidth_eq]
/-! the input's bytes put in -/
def bC (z : Int32) (i : Nat) : Int32 := if i = 0 then shrC z 24 &&& 255 else if i = 1 then shrC z 16 &&& 255 else if i = 2 then shrC z 8 &&& 255 else z &&& 255
theorem bC_nat (z : Int32) (i : Nat) : ∃ b, b < 256 ∧ bC z i = nI b := by
  unfold bC
  split
  · exact byte_nat _
  · split
    · exact byte_nat _
    · split <;> exact byte_nat _
theorem put4_at (z : Int32) (L : Nat) (f : Nat → Int32) (k : Nat) : put4 z L f k = if L ≤ k ∧ k < L + 4 then bC z (k - L) else f k := by
  unfold put4 bC
  simp only [up1]
  by_cases h : L ≤ k ∧ k < L + 4
  · rw [if_pos h]
    rcases (by omega : k = L + 1 + 1 + 1 ∨ k = L + 1 + 1 ∨ k = L + 1 ∨ k = L) with e | e | e | e
    · rw [if_pos e, if_neg (by omega), if_neg (by omega), if_neg (by omega)]
    · rw [if_neg (by omega), if_pos e, if_neg (by omega), if_neg (by omega), if_pos (by omega)]
    · rw [if_neg (by omega), if_neg (by omega), if_pos e, if_neg (by omega), if_pos (by omega)]
    · rw [if_neg (by omega), if_neg (by omega), if_neg (by omega), if_pos e, if_pos (by omega)]
  · rw [if_neg h, if_neg (by omega), if_neg (by omega), if_neg (by omega), if_neg (by omega)]
theorem upIt_at (g : Nat → Int32) (L : Nat) : ∀ (n k : Nat) (f : Nat → Int32) (i : Nat), iter (fun k f => va_up f (L + k) (g k)) n k f i = if L + k ≤ i ∧ i < L + k + n then g (i - L) else f i
  | 0, k, f, i => by
    rw [if_neg (by omega)]; rfl
  | n + 1, k, f, i => by
    show iter (fun k f => va_up f (L + k) (g k)) n (k + 1) (va_up f (L + k) (g k)) i = _
    rw [upIt_at g L n (k + 1)]
    by_cases h : i = L + k
    · subst h
      rw [if_neg (by omega), if_pos (by omega), up1, if_pos rfl, Nat.add_sub_cancel_left]
    · by_cases h2 : L + (k + 1) ≤ i ∧ i < L + (k + 1) + n
      · rw [if_pos h2, if_pos (by omega)]
      · rw [if_neg h2, if_neg (by omega), va_up_ne _ _ h]
theorem byteI_bC (a b c d e : Int32) (i : Nat) : byteI a b c d e i = bC (selI a b c d e i) (i % 4) := by
  unfold byteI bC
  generalize selI a b c d e i = z
  rcases (by omega : i % 4 = 0 ∨ i % 4 = 1 ∨ i % 4 = 2 ∨ i % 4 = 3) with h | h | h | h
  · rw [h, if_pos rfl]; exact byte_sh (n := 24) (by decide) z
  · rw [h, if_neg (by decide), if_pos rfl]; exact byte_sh (n := 16) (by decide) z
  · rw [h, if_neg (by decide), if_neg (by decide), if_pos rfl]; exact byte_sh (n := 8) (by decide) z
  · rw [h, if_neg (by decide), if_neg (by decide), if_neg (by decide)]; exact byte_0 z
theorem appC_at (a b c d e : Int32) (L : Nat) (f : Nat → Int32) (k : Nat) : appC a b c d e L f k = if L ≤ k ∧ k < L + 20 then bC (selI a b c d e (k - L)) ((k - L) % 4) else f k := by
  unfold appC selI
  rw [put4_at, put4_at, put4_at, put4_at, put4_at]
  by_cases h : L ≤ k ∧ k < L + 20
  · rw [if_pos h]
    rcases (by omega : k < L + 4 ∨ (L + 4 ≤ k ∧ k < L + 8) ∨ (L + 8 ≤ k ∧ k < L + 12) ∨ (L + 12 ≤ k ∧ k < L + 16) ∨ L + 16 ≤ k) with e | e | e | e | e
    · rw [if_neg (by omega), if_neg (by omega), if_neg (by omega), if_neg (by omega), if_pos (by omega), if_neg (by omega), show k - L = (k - L) % 4 by omega, Nat.mod_mod]
    · rw [if_neg (by omega), if_neg (by omega), if_neg (by omega), if_pos (by omega), if_pos (by omega), if_neg (by omega), show k - (L + 4) = (k - L) % 4 by omega]
    · rw [if_neg (by omega), if_neg (by omega), if_pos (by omega), if_pos (by omega), if_pos (by omega), if_neg (by omega), show k - (L + 4 + 4) = (k - L) % 4 by omega]
    · rw [if_neg (by omega), if_pos (by omega), if_pos (by omega), if_pos (by omega), if_pos (by omega), if_neg (by omega), show k - (L + 4 + 4 + 4) = (k - L) % 4 by omega]
    · rw [if_pos (by omega), if_pos (by omega), if_pos (by omega), if_pos (by omega), if_pos (by omega), show k - (L + 4 + 4 + 4 + 4) = (k - L) % 4 by omega]
  · rw [if_neg h, if_neg (by omega), if_neg (by omega), if_neg (by omega), if_neg (by omega), if_neg (by omega)]
theorem app_R {a b c d e : Int32} {L : Nat} {f f' : Nat → Int32} (h : ∀ k, k < L → f' k = f k ∧ ∃ b, b < 256 ∧ f k = nI b) : ∀ k, k < L + 20 → appR a b c d e L f' k = appC a b c d e L f k ∧ ∃ z, z < 256 ∧ appC a b c d e L f k = nI z := by
  intro k hk
  unfold appR
  rw [upIt_at, appC_at]
  by_cases c2 : L ≤ k
  · rw [if_pos (by omega), if_pos (by omega), byteI_bC]
    exact ⟨rfl, bC_nat _ _⟩
  · rw [if_neg (by omega), if_neg (by omega)]
    exact h k (by omega)
