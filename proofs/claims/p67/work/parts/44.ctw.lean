/-! what the constructors make -/
def zO : Nat → Nat → Int32 := fun _ _ => 0
def SKY (T : Nat → ClassId) (x : Nat → Nat) : va_W := [(x 0, .inr (6, [.int 0, .int 0, .int 0, .int 0, .ref (x 1)])), (x 1, .inl (T 0, 10, .inl fun _ => 0))]
def STA (T : Nat → ClassId) (x : Nat → Nat) : va_W := [(x 0, .inr (8, [.int 0, .int 0, .ref (x 1), .ref (x 2)])), (x 1, .inl (T 0, 5, .inl fun _ => 0)), (x 2, .inl (T 0, 5, .inl fun _ => 0))]
def PIL (T : Nat → ClassId) (x : Nat → Nat) : va_W := [(x 0, .inr (5, [.int 0, .ref (x 1), .ref (x 2), .ref (x 3), .ref (x 4), .ref (x 5), .ref (x 6), .ref (x 7)])), (x 1, .inl (T 0, 24, .inl fun _ => 0)), (x 2, .inl (T 0, 24, .inl fun _ => 0)), (x 3, .inl (T 0, 24, .inl fun _ => 0)), (x 4, .inl (T 0, 24, .inl fun _ => 0)), (x 5, .inl (T 0, 24, .inl fun _ => 0)), (x 6, .inl (T 0, 24, .inl fun _ => 0)), (x 7, .inl (T 0, 24, .inl fun _ => 0))]
def INP (T : Nat → ClassId) (x : Nat → Nat) : va_W := [(x 0, .inr (1, [.int 0, .int 0, .int 0, .int 0, .ref (x 1)])), (x 1, .inl (T 0, 600, .inl fun _ => 0))]
def LOA (T : Nat → ClassId) (x : Nat → Nat) : va_W := (x 0, .inr (2, [.int 0, .int 0, .ref (x 1), .ref (x 3)])) :: (x 1, .inr (1, [.int 0, .int 0, .int 0, .int 0, .ref (x 2)])) :: (x 2, .inl (T 0, 600, .inl fun _ => 0)) :: OFF T (fun i => x (3 + i)) zO
def PAG (T : Nat → ClassId) (x : Nat → Nat) : va_W := [(x 0, .inr (4, [.int 0, .ref (x 1)])), (x 1, .inl (T 0, 120, .inl fun _ => 0))]
/-- offices made in a loop -/
def OFR (T : Nat → ClassId) (B : Nat → Nat → Nat) (n : Nat) : va_W := (List.range n).flatMap fun j => OFF T (B j) zO
def kfR (B : Nat → Nat → Nat) (n : Nat) : Nat → Option Nat := fun j => if j < n then some (B j 0) else none
theorem kfR_up (B : Nat → Nat → Nat) (n : Nat) (x : Nat → Nat) : va_up (kfR B n) n (some (x 0)) = kfR (va_up B n x) (n + 1) := by
  funext j
  simp only [va_up, kfR]
  by_cases h : j = n
  · subst h; simp
  · by_cases h2 : j < n
    · rw [if_neg h, if_pos h2, if_pos (by omega), if_neg h]
    · rw [if_neg h, if_neg h2, if_neg (by omega)]
theorem OFR_same (T : Nat → ClassId) (B : Nat → Nat → Nat) (x : Nat → Nat) (n : Nat) : ∀ m, m ≤ n → OFR T (va_up B n x) m = OFR T B m
  | 0, _ => rfl
  | m + 1, h => by
    unfold OFR
    rw [List.range_succ, List.flatMap_append, List.flatMap_append]
    have := OFR_same T B x n m (by omega)
    unfold OFR at this
    rw [this]
    congr 1
    show OFF T (va_up B n x m) zO ++ [] = OFF T (B m) zO ++ []
    rw [show va_up B n x m = B m from if_neg (by omega)]
theorem OFR_up (T : Nat → ClassId) (B : Nat → Nat → Nat) (x : Nat → Nat) (n : Nat) : OFR T B n ++ OFF T x zO = OFR T (va_up B n x) (n + 1) := by
  rw [← OFR_same T B x n n (Nat.le_refl n)]
  unfold OFR
  rw [List.range_succ, List.flatMap_append]
  congr 1
  show OFF T x zO = OFF T (va_up B n x n) zO ++ []
  rw [List.append_nil, va_up_at]
theorem kfR_0 (B : Nat → Nat → Nat) : (fun _ => none) = kfR B 0 := by
  funext j
  show none = if j < 0 then _ else none
  rw [if_neg (Nat.not_lt_zero j)]
def HIS (T : Nat → ClassId) (u : (Nat → Nat) × (Nat → Nat → Nat)) : va_W := (u.1 0, .inr (0, [.int 0, .int 0, .ref (u.1 1)])) :: (u.1 1, .inl (T 2, 8, .inr (.inr (.inr (.inr (kfR u.2 8)))))) :: OFR T u.2 8
def SNA (T : Nat → ClassId) (u : (Nat → Nat) × (Nat → Nat → Nat)) : va_W := (u.1 0, .inr (7, [.ref (u.1 1), .ref (u.1 2)])) :: (u.1 1, .inl (T 1, 2, .inl fun _ => 0)) :: (u.1 2, .inl (T 2, 2, .inr (.inr (.inr (.inr (kfR u.2 2)))))) :: OFR T u.2 2
theorem OFR_len (T : Nat → ClassId) (B : Nat → Nat → Nat) : ∀ n, (OFR T B n).length = 14 * n
  | 0 => rfl
  | n + 1 => by
    unfold OFR
    rw [List.range_succ, List.flatMap_append, List.length_append]
    have := OFR_len T B n
    unfold OFR at this
    rw [this]
    show 14 * n + 14 = _
    omega
theorem OFR_hd (T : Nat → ClassId) (B : Nat → Nat → Nat) (n : Nat) (x : Nat → Nat) : (OFR T B n ++ OFF T x zO)[14 * n]? = some (x 0, .inr (3, [.int 0, .ref (x 1), .ref (x 3), .ref (x 6)])) := by
  rw [List.getElem?_append_right (by rw [OFR_len]; exact Nat.le_refl _), OFR_len, Nat.sub_self]
  rfl
