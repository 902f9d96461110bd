/-! the window's cells: eleven of its own, thirteen offices (0 the office, 1 the trial, 2 the draft, 3..10 the history, 11, 12 the slots) -/
/-- a reader's state: kind, start, end, failed, where -/
abbrev CSt : Type := Int32 × Nat × Nat × Bool × Int32
def js13 : List Nat := [0, 1, 2, 3, 4, 5, 6, 7, 8, 9, 10, 11, 12]
def OFS (T : Nat → ClassId) (B : Nat → Nat → Nat) (O : Nat → Nat → Nat → Int32) (js : List Nat) : va_W := js.flatMap fun j => OFF T (B j) (O j)
def WIN (T : Nat → ClassId) (v : Nat → Nat) (B : Nat → Nat → Nat) (O : Nat → Nat → Nat → Int32) (g : CSt) (ln un nx pl : Nat) (f0 f1 f2 : Nat → Int32) : va_W :=
  (v 0, .inr (9, [.ref (v 1), .ref (B 0 0), .ref (B 1 0), .ref (v 4), .ref (v 6), .ref (v 9)])) ::
  (v 1, .inr (2, [.int (bI g.2.2.2.1), .int g.2.2.2.2, .ref (v 2), .ref (B 2 0)])) ::
  (v 2, .inr (1, [.int (nI ln), .int g.1, .int (nI g.2.1), .int (nI g.2.2.1), .ref (v 3)])) ::
  (v 3, .inl (T 0, 600, .inl f0)) ::
  (v 4, .inr (0, [.int (nI un), .int (nI nx), .ref (v 5)])) ::
  (v 5, .inl (T 2, 8, .inr (.inr (.inr (.inr fun j => some (B (3 + j) 0)))))) ::
  (v 6, .inr (7, [.ref (v 7), .ref (v 8)])) ::
  (v 7, .inl (T 1, 2, .inl f2)) ::
  (v 8, .inl (T 2, 2, .inr (.inr (.inr (.inr fun j => some (B (11 + j) 0)))))) ::
  (v 9, .inr (4, [.int (nI pl), .ref (v 10)])) ::
  (v 10, .inl (T 0, 120, .inl f1)) :: OFS T B O js13
theorem js13_perm1 : ∀ i, i < 13 → js13.Perm (i :: js13.erase i) := by decide +kernel
theorem js13_perm2 : ∀ i, i < 13 → ∀ j, j < 13 → i ≠ j → js13.Perm (i :: j :: (js13.erase i).erase j) := by decide +kernel
theorem js13_out1 : ∀ i, i < 13 → ∀ k ∈ js13.erase i, k ≠ i := by decide +kernel
theorem js13_out2 : ∀ i, i < 13 → ∀ j, j < 13 → ∀ k ∈ (js13.erase i).erase j, k ≠ i := by decide +kernel
theorem OFS_same {T : Nat → ClassId} {B : Nat → Nat → Nat} {O : Nat → Nat → Nat → Int32} {i : Nat} {o1 : Nat → Nat → Int32} : ∀ {js : List Nat}, (∀ k ∈ js, k ≠ i) → OFS T B (va_up O i o1) js = OFS T B O js
  | [], _ => rfl
  | j :: js, h => by
    show OFF T (B j) (va_up O i o1 j) ++ OFS T B (va_up O i o1) js = OFF T (B j) (O j) ++ OFS T B O js
    rw [OFS_same (fun k hk => h k (List.mem_cons_of_mem _ hk)), show va_up O i o1 j = O j from if_neg (h j List.mem_cons_self)]
theorem OFS_perm {T : Nat → ClassId} {B : Nat → Nat → Nat} {O : Nat → Nat → Nat → Int32} {js js' : List Nat} (h : js.Perm js') : (OFS T B O js).Perm (OFS T B O js') := List.Perm.flatMap_right _ h
theorem FocW {F : va_W} {T : Nat → ClassId} {B : Nat → Nat → Nat} {O : Nat → Nat → Nat → Int32} {i : Nat} (hi : i < 13) (o1 : Nat → Nat → Int32) :
    Foc (F ++ OFS T B O js13) (OFF T (B i) (O i)) (F ++ OFS T B (va_up O i o1) js13) (OFF T (B i) o1) := by
  refine ⟨OFS T B O (js13.erase i) ++ F, ?_, ?_⟩
  · refine List.perm_append_comm.trans ?_
    rw [← List.append_assoc]
    exact List.Perm.append_right F (OFS_perm (js13_perm1 i hi))
  · refine List.perm_append_comm.trans ?_
    rw [← List.append_assoc]
    refine List.Perm.append_right F ((OFS_perm (js13_perm1 i hi)).trans ?_)
    show (OFF T (B i) (va_up O i o1 i) ++ OFS T B (va_up O i o1) (js13.erase i)).Perm _
    rw [OFS_same (js13_out1 i hi), show va_up O i o1 i = o1 from if_pos rfl]
theorem FocW2 {F : va_W} {T : Nat → ClassId} {B : Nat → Nat → Nat} {O : Nat → Nat → Nat → Int32} {i j : Nat} (hi : i < 13) (hj : j < 13) (hij : i ≠ j) (o1 : Nat → Nat → Int32) :
    Foc (F ++ OFS T B O js13) (OFF T (B i) (O i) ++ OFF T (B j) (O j)) (F ++ OFS T B (va_up O i o1) js13) (OFF T (B i) o1 ++ OFF T (B j) (O j)) := by
  refine ⟨OFS T B O ((js13.erase i).erase j) ++ F, ?_, ?_⟩
  · refine List.perm_append_comm.trans ?_
    rw [← List.append_assoc]
    refine List.Perm.append_right F ((OFS_perm (js13_perm2 i hi j hj hij)).trans ?_)
    show (OFF T (B i) (O i) ++ (OFF T (B j) (O j) ++ OFS T B O ((js13.erase i).erase j))).Perm _
    rw [← List.append_assoc]
  · refine List.perm_append_comm.trans ?_
    rw [← List.append_assoc]
    refine List.Perm.append_right F ((OFS_perm (js13_perm2 i hi j hj hij)).trans ?_)
    show (OFF T (B i) (va_up O i o1 i) ++ (OFF T (B j) (va_up O i o1 j) ++ OFS T B (va_up O i o1) ((js13.erase i).erase j))).Perm _
    rw [OFS_same (js13_out2 i hi j hj), show va_up O i o1 i = o1 from if_pos rfl, show va_up O i o1 j = O j from if_neg (fun e => hij e.symm), ← List.append_assoc]
/-- an office's cell in the window's -/
theorem OFS_get {T : Nat → ClassId} {B : Nat → Nat → Nat} {O : Nat → Nat → Nat → Int32} {k : Nat} (hk : k < 14) : ∀ {n s j : Nat}, s ≤ j → j < s + n → (OFS T B O (List.range' s n))[14 * (j - s) + k]? = (OFF T (B j) (O j))[k]?
  | 0, s, j, h1, h2 => by omega
  | n + 1, s, j, h1, h2 => by
    show (OFF T (B s) (O s) ++ OFS T B O (List.range' (s + 1) n))[14 * (j - s) + k]? = _
    by_cases e : j = s
    · subst e
      rw [Nat.sub_self]
      show (OFF T (B j) (O j) ++ OFS T B O (List.range' (j + 1) n))[0 + k]? = _
      rw [Nat.zero_add, List.getElem?_append_left (by show k < 14; exact hk)]
    · rw [List.getElem?_append_right (by show 14 ≤ _; omega)]
      show (OFS T B O (List.range' (s + 1) n))[14 * (j - s) + k - 14]? = _
      rw [show 14 * (j - s) + k - 14 = 14 * (j - (s + 1)) + k by omega]
      exact OFS_get hk (by omega) (by omega)
theorem OFS_set {T : Nat → ClassId} {B : Nat → Nat → Nat} {O : Nat → Nat → Nat → Int32} {k : Nat} {x : Nat × va_E} {o1 : Nat → Nat → Int32} (hk : k < 14) : ∀ {n s j : Nat}, s ≤ j → j < s + n → (OFF T (B j) (O j)).set k x = OFF T (B j) o1 → (OFS T B O (List.range' s n)).set (14 * (j - s) + k) x = OFS T B (va_up O j o1) (List.range' s n)
  | 0, s, j, h1, h2, _ => by omega
  | n + 1, s, j, h1, h2, h3 => by
    show (OFF T (B s) (O s) ++ OFS T B O (List.range' (s + 1) n)).set (14 * (j - s) + k) x = OFF T (B s) (va_up O j o1 s) ++ OFS T B (va_up O j o1) (List.range' (s + 1) n)
    by_cases e : j = s
    · subst e
      rw [Nat.sub_self]
      show (OFF T (B j) (O j) ++ OFS T B O (List.range' (j + 1) n)).set (0 + k) x = _
      rw [Nat.zero_add, List.set_append_left _ _ (by show k < 14; exact hk), h3, show va_up O j o1 j = o1 from if_pos rfl]
      congr 1
      exact (OFS_same (fun q hq => by rw [List.mem_range'] at hq; obtain ⟨z, hz, rfl⟩ := hq; omega)).symm
    · rw [List.set_append_right _ _ (by show 14 ≤ _; omega)]
      show OFF T (B s) (O s) ++ (OFS T B O (List.range' (s + 1) n)).set (14 * (j - s) + k - 14) x = _
      rw [show 14 * (j - s) + k - 14 = 14 * (j - (s + 1)) + k by omega, OFS_set hk (by omega) (by omega) h3, show va_up O j o1 s = O s from if_neg (fun z => e z.symm)]
section WN
variable {T : Nat → ClassId} {v : Nat → Nat} {B : Nat → Nat → Nat} {O : Nat → Nat → Nat → Int32} {g : CSt} {ln un nx pl : Nat} {f0 f1 f2 : Nat → Int32}
theorem WIN_get {j k : Nat} {x : Nat × va_E} (hj : j < 13) (hk : k < 14) (h : (OFF T (B j) (O j))[k]? = some x) : (WIN T v B O g ln un nx pl f0 f1 f2)[14 * j + k + 11]? = some x := by
  rw [← h]
  exact OFS_get (n := 13) (s := 0) hk (Nat.zero_le _) (by omega)
theorem WIN_set {j k : Nat} {x : Nat × va_E} {o1 : Nat → Nat → Int32} (hj : j < 13) (hk : k < 14) (h : (OFF T (B j) (O j)).set k x = OFF T (B j) o1) : (WIN T v B O g ln un nx pl f0 f1 f2).set (14 * j + k + 11) x = WIN T v B (va_up O j o1) g ln un nx pl f0 f1 f2 := by
  have h1 := OFS_set (T := T) (B := B) (O := O) (n := 13) (s := 0) hk (Nat.zero_le j) (by omega) h
  have h2 : (OFS T B O js13).set (14 * j + k) x = OFS T B (va_up O j o1) js13 := h1
  unfold WIN
  rw [← h2]
  rfl
theorem WIN_off {j : Nat} (hj : j < 13) (o1 : Nat → Nat → Int32) : Foc (WIN T v B O g ln un nx pl f0 f1 f2) (OFF T (B j) (O j)) (WIN T v B (va_up O j o1) g ln un nx pl f0 f1 f2) (OFF T (B j) o1) :=
  FocW (F := [(v 0, .inr (9, [.ref (v 1), .ref (B 0 0), .ref (B 1 0), .ref (v 4), .ref (v 6), .ref (v 9)])), (v 1, .inr (2, [.int (bI g.2.2.2.1), .int g.2.2.2.2, .ref (v 2), .ref (B 2 0)])), (v 2, .inr (1, [.int (nI ln), .int g.1, .int (nI g.2.1), .int (nI g.2.2.1), .ref (v 3)])), (v 3, .inl (T 0, 600, .inl f0)), (v 4, .inr (0, [.int (nI un), .int (nI nx), .ref (v 5)])), (v 5, .inl (T 2, 8, .inr (.inr (.inr (.inr fun j => some (B (3 + j) 0)))))), (v 6, .inr (7, [.ref (v 7), .ref (v 8)])), (v 7, .inl (T 1, 2, .inl f2)), (v 8, .inl (T 2, 2, .inr (.inr (.inr (.inr fun j => some (B (11 + j) 0)))))), (v 9, .inr (4, [.int (nI pl), .ref (v 10)])), (v 10, .inl (T 0, 120, .inl f1))]) hj o1
theorem WIN_off2 {i j : Nat} (hi : i < 13) (hj : j < 13) (hij : i ≠ j) (o1 : Nat → Nat → Int32) : Foc (WIN T v B O g ln un nx pl f0 f1 f2) (OFF T (B i) (O i) ++ OFF T (B j) (O j)) (WIN T v B (va_up O i o1) g ln un nx pl f0 f1 f2) (OFF T (B i) o1 ++ OFF T (B j) (O j)) :=
  FocW2 (F := [(v 0, .inr (9, [.ref (v 1), .ref (B 0 0), .ref (B 1 0), .ref (v 4), .ref (v 6), .ref (v 9)])), (v 1, .inr (2, [.int (bI g.2.2.2.1), .int g.2.2.2.2, .ref (v 2), .ref (B 2 0)])), (v 2, .inr (1, [.int (nI ln), .int g.1, .int (nI g.2.1), .int (nI g.2.2.1), .ref (v 3)])), (v 3, .inl (T 0, 600, .inl f0)), (v 4, .inr (0, [.int (nI un), .int (nI nx), .ref (v 5)])), (v 5, .inl (T 2, 8, .inr (.inr (.inr (.inr fun j => some (B (3 + j) 0)))))), (v 6, .inr (7, [.ref (v 7), .ref (v 8)])), (v 7, .inl (T 1, 2, .inl f2)), (v 8, .inl (T 2, 2, .inr (.inr (.inr (.inr fun j => some (B (11 + j) 0)))))), (v 9, .inr (4, [.int (nI pl), .ref (v 10)])), (v 10, .inl (T 0, 120, .inl f1))]) hi hj hij o1
end WN
/-- a place of a row of references, its index a number -/
theorem aldR {p : Program} {l : Launch} {e : Env} {R : Room} {s : State} {m : MethodId} {args : Array Value} {below : List Frame} {meth : Method} {c : Code} {H : Heap} {locs : List Loc} {cells slots : Nat} {Q : State → Prop} {cc : ByteArray} {pc : Nat} {ls : Array Slot} {rest : List Value} {D : va_G} {ws : va_W}
    {tys : List (ClassId × FieldType)} {a : Nat} (hexec : p.tables.exec = Jvm.exec) (hb : c.code = cc) (hK : va_K D vwCl tys s) (hP : va_P D vwCl ws H) (q0 t0 : Nat) {cA : ClassId} {C : String} {n : Nat} {f : Nat → Option Nat} (ha : ws[q0]? = some (a, .inl (cA, n, .inr (.inr (.inr (.inr f)))))) (ht : tys[t0]? = some (cA, .object C)) (k : Nat) {i : Int32} (hi : i = nI k) (hk : k < n) (hN : n < 2 ^ 31) (hdg : decode cc pc = .ok (.aaload, 1))
    (kk : W p l e R s m args below meth c H locs cells slots Q (F0 m (pc + 1) ls (va_rf (f k) :: rest))) : W p l e R s m args below meth c H locs cells slots Q (F0 m pc ls (.int i :: .ref a :: rest)) := by
  subst hi
  have h1 : (nI k).toNatClampNeg = k := nI_clamp (by omega)
  refine va_aldq hexec hb hK hP q0 t0 ha ht (nI_in hk hN) hdg ?_
  rw [h1]
  exact kk
