/-! the reference's load -/
def zeroD (r : Nat → Int32) : Nat → Int32 := iter (fun k f => va_up f k 0) 202 0 r
theorem zeroD_at : ∀ (n k : Nat) (f : Nat → Int32) (i : Nat), iter (fun k f => va_up f k 0) n k f i = if k ≤ i ∧ i < k + n then 0 else f i
  | 0, k, f, i => by
    rw [if_neg (by omega)]; rfl
  | n + 1, k, f, i => by
    show iter (fun k f => va_up f k 0) n (k + 1) (va_up f k 0) i = _
    rw [zeroD_at n (k + 1)]
    by_cases h : k + 1 ≤ i ∧ i < k + 1 + n
    · rw [if_pos h, if_pos (by omega)]
    · rw [if_neg h]
      simp only [va_up]
      by_cases h2 : i = k
      · rw [if_pos h2, if_pos (by omega)]
      · rw [if_neg h2, if_neg (by omega)]
theorem zeroD_0 {r : Nat → Int32} {i : Nat} (h : i < 202) : zeroD r i = 0 := by
  unfold zeroD
  rw [zeroD_at, if_pos (by omega)]
/-- the reference where it begins to read -/
def loadY (y : Nat → Nat → Int32) : Nat → Nat → Int32 := yS (va_up y 2 (zeroD (y 2))) 3 0
theorem load_in (T : Nat → ClassId) (b : Nat → Nat) (y : Nat → Nat → Int32) (w : Int64) : REF T b (yS (yS (yS y 4 0) 8 0) 2 (-1)) w = PARW T b y (0, y 0 5, y 0 6, y 0 7, w, false, -1) := rfl
/-- the text read: draft and reader at the end -/
def loadQ (y : Nat → Nat → Int32) (w : Int64) (L : Nat) : (Nat → Int32) × PSt := txR (y 7) L (y 2) (tokP (y 7) L (0, y 0 5, y 0 6, y 0 7, w, false, -1))
def loadZ (y : Nat → Nat → Int32) (w : Int64) (L : Nat) : Nat → Nat → Int32 := encY (va_up y 2 (loadQ y w L).1) (loadQ y w L).2
theorem loadQ_is (y : Nat → Nat → Int32) (w : Int64) (L : Nat) : txR (y 7) L (y 2) (tokP (y 7) L (0, y 0 5, y 0 6, y 0 7, w, false, -1)) = loadQ y w L := rfl
/-- .. where it has read -/
theorem load_out (T : Nat → ClassId) (b : Nat → Nat) (y : Nat → Nat → Int32) (w : Int64) (L : Nat) : PARW T b (va_up y 2 (loadQ y w L).1) (loadQ y w L).2 = REF T b (loadZ y w L) (loadQ y w L).2.2.2.2.2.1 := by
  unfold loadZ
  exact PARW_eq T b _ _
theorem encY_8 (y : Nat → Nat → Int32) (p : PSt) : encY y p 0 8 = bI p.2.2.2.2.2.1 := rfl
theorem loadZ_8 (y : Nat → Nat → Int32) (w : Int64) (L : Nat) : loadZ y w L 0 8 = bI (loadQ y w L).2.2.2.2.2.2.1 := by
  unfold loadZ
  exact encY_8 _ _
def loadR (y : Nat → Nat → Int32) (w : Int64) (L : Nat) : Nat → Nat → Int32 :=
  if (loadQ (loadY y) w L).2.2.2.2.2.2.1 then yS (yS (loadZ (loadY y) w L) 1 0) 3 1
  else yS (yS (va_up (va_up (loadZ (loadY y) w L) 1 (rLay (loadZ (loadY y) w L 2) 0 0 (loadZ (loadY y) w L 1))) 6 (iter (fun k f => va_up f k 0) 2 0 (loadZ (loadY y) w L 6))) 1 0) 0 0
theorem loadR_w {y Y Z : Nat → Nat → Int32} {w : Int64} {L : Nat} (hY : loadY y = Y) (hZ : loadZ Y w L = Z) (h : (loadQ Y w L).2.2.2.2.2.2.1 = true) : loadR y w L = yS (yS Z 1 0) 3 1 := by
  subst hY; subst hZ; exact if_pos h
theorem loadR_g {y Y Z : Nat → Nat → Int32} {w : Int64} {L : Nat} (hY : loadY y = Y) (hZ : loadZ Y w L = Z) (h : (loadQ Y w L).2.2.2.2.2.2.1 = false) : loadR y w L = yS (yS (va_up (va_up Z 1 (rLay (Z 2) 0 0 (Z 1))) 6 (iter (fun k f => va_up f k 0) 2 0 (Z 6))) 1 0) 0 0 := by
  subst hY; subst hZ; exact if_neg (by rw [h]; decide)
