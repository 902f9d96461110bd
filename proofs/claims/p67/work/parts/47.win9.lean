/-! the window as its constructor leaves it -/
theorem perm9 (L D O Tt H HB S SB P : va_W) : ((((((L ++ D) ++ O) ++ Tt) ++ (H ++ HB)) ++ (S ++ SB)) ++ P).Perm (L ++ (H ++ (S ++ (P ++ (O ++ (Tt ++ (D ++ (HB ++ SB)))))))) := by
  have h := List.Perm.flatMap_right (fun i : Nat => [L, D, O, Tt, H, HB, S, SB, P].getD i []) (show [0, 1, 2, 3, 4, 5, 6, 7, 8].Perm [0, 4, 6, 8, 2, 3, 1, 5, 7] by decide)
  have h2 : (L ++ (D ++ (O ++ (Tt ++ (H ++ (HB ++ (S ++ (SB ++ (P ++ []))))))))).Perm (L ++ (H ++ (S ++ (P ++ (O ++ (Tt ++ (D ++ (HB ++ (SB ++ []))))))))) := h
  simp only [List.append_nil] at h2
  simp only [List.append_assoc]
  exact h2
def vOf (b : Nat) (l : Nat → Nat) (h s p : Nat → Nat) : Nat → Nat := fun i => [b, l 0, l 1, l 2, h 0, h 1, s 0, s 1, s 2, p 0, p 1].getD i 0
def BOf (l o t : Nat → Nat) (hB sB : Nat → Nat → Nat) : Nat → Nat → Nat := fun j => if j = 0 then o else if j = 1 then t else if j = 2 then (fun i => l (3 + i)) else if j < 11 then hB (j - 3) else sB (j - 11)
def gZ : CSt := (0, 0, 0, false, 0)
def zOO : Nat → Nat → Nat → Int32 := fun _ => zO
theorem OFS_of (T : Nat → ClassId) (l o t : Nat → Nat) (hB sB : Nat → Nat → Nat) : OFS T (BOf l o t hB sB) zOO js13 = OFF T o zO ++ (OFF T t zO ++ (OFF T (fun i => l (3 + i)) zO ++ (OFR T hB 8 ++ OFR T sB 2))) := by
  have h8 : OFR T hB 8 = OFF T (hB 0) zO ++ (OFF T (hB 1) zO ++ (OFF T (hB 2) zO ++ (OFF T (hB 3) zO ++ (OFF T (hB 4) zO ++ (OFF T (hB 5) zO ++ (OFF T (hB 6) zO ++ (OFF T (hB 7) zO ++ []))))))) := rfl
  have h2 : OFR T sB 2 = OFF T (sB 0) zO ++ (OFF T (sB 1) zO ++ []) := rfl
  have h0 : OFS T (BOf l o t hB sB) zOO js13 = OFF T o zO ++ (OFF T t zO ++ (OFF T (fun i => l (3 + i)) zO ++ (OFF T (hB 0) zO ++ (OFF T (hB 1) zO ++ (OFF T (hB 2) zO ++ (OFF T (hB 3) zO ++ (OFF T (hB 4) zO ++ (OFF T (hB 5) zO ++ (OFF T (hB 6) zO ++ (OFF T (hB 7) zO ++ (OFF T (sB 0) zO ++ (OFF T (sB 1) zO ++ [])))))))))))) := rfl
  rw [h8, h2, h0]
  simp only [List.append_assoc, List.append_nil]
theorem wP_eqr {D : va_G} {cl : List vw_C} {ws : va_W} {H : Heap} {q1 a N : Nat} {c1 : ClassId} {f g : Nat → Option Nat} (h : ∀ k, k < N → g k = f k) (hP : va_P D cl (ws.set q1 (a, .inl (c1, N, .inr (.inr (.inr (.inr g)))))) H) : va_P D cl (ws.set q1 (a, .inl (c1, N, .inr (.inr (.inr (.inr f)))))) H := by
  intro k q hk
  rw [List.getElem?_set] at hk
  by_cases e : q1 = k
  · subst e
    rw [if_pos rfl] at hk
    by_cases e2 : q1 < ws.length
    · rw [if_pos e2] at hk
      obtain rfl := Option.some.inj hk
      have h1 := hP q1 (a, .inl (c1, N, .inr (.inr (.inr (.inr g))))) (by rw [List.getElem?_set, if_pos rfl, if_pos e2])
      have e3 : vp_cell c1 (N, .inr (.inr (.inr (.inr g)))) = vp_cell c1 (N, .inr (.inr (.inr (.inr f)))) := by
        rw [vp_cell_q, vp_cell_q]
        simp only [arrV]
        congr 1
        congr 1
        funext j
        rw [h j.val j.isLt]
      show H[a]? = some (vp_cell c1 (N, .inr (.inr (.inr (.inr f)))))
      rw [← e3]
      exact h1
    · rw [if_neg e2] at hk; cases hk
  · rw [if_neg e] at hk
    exact hP k q (by rw [List.getElem?_set, if_neg e]; exact hk)
section W9
variable {D : va_G} {T : Nat → ClassId} {b : Nat} {l o t h s p : Nat → Nat} {hB sB : Nat → Nat → Nat} {H : Heap} {A : Nat → Prop}
/-- the window's cells as they are made -/
def MADE (T : Nat → ClassId) (b : Nat) (l o t : Nat → Nat) (h : (Nat → Nat) × (Nat → Nat → Nat)) (s : (Nat → Nat) × (Nat → Nat → Nat)) (p : Nat → Nat) : va_W :=
  (b, .inr (9, [.ref (l 0), .ref (o 0), .ref (t 0), .ref (h.1 0), .ref (s.1 0), .ref (p 0)])) :: (((((([] ++ LOA T l) ++ OFF T o zO) ++ OFF T t zO) ++ HIS T h) ++ SNA T s) ++ PAG T p)
def WINz (T : Nat → ClassId) (v : Nat → Nat) (B : Nat → Nat → Nat) (hB sB : Nat → Nat → Nat) : va_W :=
  (v 0, .inr (9, [.ref (v 1), .ref (B 0 0), .ref (B 1 0), .ref (v 4), .ref (v 6), .ref (v 9)])) ::
  ([(v 1, .inr (2, [.int 0, .int 0, .ref (v 2), .ref (B 2 0)])), (v 2, .inr (1, [.int 0, .int 0, .int 0, .int 0, .ref (v 3)])), (v 3, .inl (T 0, 600, .inl fun _ => 0))] ++
  ([(v 4, .inr (0, [.int 0, .int 0, .ref (v 5)])), (v 5, .inl (T 2, 8, .inr (.inr (.inr (.inr (kfR hB 8))))))] ++
  ([(v 6, .inr (7, [.ref (v 7), .ref (v 8)])), (v 7, .inl (T 1, 2, .inl fun _ => 0)), (v 8, .inl (T 2, 2, .inr (.inr (.inr (.inr (kfR sB 2))))))] ++
  ([(v 9, .inr (4, [.int 0, .ref (v 10)])), (v 10, .inl (T 0, 120, .inl fun _ => 0))] ++ OFS T B zOO js13))))
theorem MADE_perm : (MADE T b l o t (h, hB) (s, sB) p).Perm (WINz T (vOf b l h s p) (BOf l o t hB sB) hB sB) := by
  unfold WINz
  rw [OFS_of]
  exact List.Perm.cons _ (perm9 [(l 0, .inr (2, [.int 0, .int 0, .ref (l 1), .ref (l 3)])), (l 1, .inr (1, [.int 0, .int 0, .int 0, .int 0, .ref (l 2)])), (l 2, .inl (T 0, 600, .inl fun _ => 0))] (OFF T (fun i => l (3 + i)) zO) (OFF T o zO) (OFF T t zO) [(h 0, .inr (0, [.int 0, .int 0, .ref (h 1)])), (h 1, .inl (T 2, 8, .inr (.inr (.inr (.inr (kfR hB 8))))))] (OFR T hB 8) [(s 0, .inr (7, [.ref (s 1), .ref (s 2)])), (s 1, .inl (T 1, 2, .inl fun _ => 0)), (s 2, .inl (T 2, 2, .inr (.inr (.inr (.inr (kfR sB 2))))))] (OFR T sB 2) [(p 0, .inr (4, [.int 0, .ref (p 1)])), (p 1, .inl (T 0, 120, .inl fun _ => 0))])
theorem MADE_P (hP : va_P D vwCl (MADE T b l o t (h, hB) (s, sB) p) H) : va_P D vwCl (WIN T (vOf b l h s p) (BOf l o t hB sB) zOO gZ 0 0 0 0 (fun _ => 0) (fun _ => 0) (fun _ => 0)) H := by
  have h1 := wP_perm MADE_perm hP
  have h2 : va_P D vwCl ((WINz T (vOf b l h s p) (BOf l o t hB sB) hB sB).set 5 (h 1, .inl (T 2, 8, .inr (.inr (.inr (.inr (kfR hB 8))))))) H := h1
  have h3 := wP_eqr (f := fun j => some (BOf l o t hB sB (3 + j) 0)) (fun k hk => by
    have : BOf l o t hB sB (3 + k) = hB k := by
      unfold BOf
      rw [if_neg (by omega), if_neg (by omega), if_neg (by omega), if_pos (by omega), Nat.add_sub_cancel_left]
    rw [this]
    exact if_pos hk) h2
  have h4 : va_P D vwCl (((WINz T (vOf b l h s p) (BOf l o t hB sB) hB sB).set 5 (h 1, .inl (T 2, 8, .inr (.inr (.inr (.inr fun j => some (BOf l o t hB sB (3 + j) 0))))))).set 8 (s 2, .inl (T 2, 2, .inr (.inr (.inr (.inr (kfR sB 2))))))) H := h3
  have h5 := wP_eqr (f := fun j => some (BOf l o t hB sB (11 + j) 0)) (fun k hk => by
    have : BOf l o t hB sB (11 + k) = sB k := by
      unfold BOf
      rw [if_neg (by omega), if_neg (by omega), if_neg (by omega), if_neg (by omega), Nat.add_sub_cancel_left]
    rw [this]
    exact if_pos hk) h4
  exact h5
theorem MADE_D (hD : va_D A (MADE T b l o t (h, hB) (s, sB) p)) : va_D A (WIN T (vOf b l h s p) (BOf l o t hB sB) zOO gZ 0 0 0 0 (fun _ => 0) (fun _ => 0) (fun _ => 0)) := by
  have h1 := wD_perm MADE_perm hD
  have h2 : va_D A ((WINz T (vOf b l h s p) (BOf l o t hB sB) hB sB).set 5 (h 1, .inl (T 2, 8, .inr (.inr (.inr (.inr (kfR hB 8))))))) := h1
  have h3 := wD_eqv (e2 := .inl (T 2, 8, .inr (.inr (.inr (.inr fun j => some (BOf l o t hB sB (3 + j) 0)))))) h2
  have h4 : va_D A (((WINz T (vOf b l h s p) (BOf l o t hB sB) hB sB).set 5 (h 1, .inl (T 2, 8, .inr (.inr (.inr (.inr fun j => some (BOf l o t hB sB (3 + j) 0))))))).set 8 (s 2, .inl (T 2, 2, .inr (.inr (.inr (.inr (kfR sB 2))))))) := h3
  have h5 := wD_eqv (e2 := .inl (T 2, 2, .inr (.inr (.inr (.inr fun j => some (BOf l o t hB sB (11 + j) 0)))))) h4
  exact h5
end W9
/-- the first text in the buffer, n bytes of it -/
def txL (n : Nat) : Nat → Int32 := iter (fun k f => va_up f k (litF 0 k &&& 255)) n 0 (fun _ => 0)
theorem iter_last {α : Type} (f : Nat → α → α) : ∀ (n i : Nat) (x : α), iter f (n + 1) i x = f (i + n) (iter f n i x)
  | 0, i, x => rfl
  | n + 1, i, x => by
    show iter f (n + 1) (i + 1) (f i x) = f (i + (n + 1)) (iter f n (i + 1) (f i x))
    rw [iter_last f n (i + 1) (f i x)]
    congr 1; omega
theorem txL_up (n : Nat) : txL (n + 1) = va_up (txL n) n (litF 0 n &&& 255) := by
  unfold txL
  rw [iter_last, Nat.zero_add]
def d0C : Nat → Nat → Int32 := (rd4 (txL 124) 124 (zO, gZ)).2.1
def g0C : CSt := rd5 (txL 124) 124 (zO, gZ)
def O0C : Nat → Nat → Nat → Int32 := va_up (va_up zOO 2 d0C) 0 d0C
theorem litN0 : litN 0 = 124 := by decide +kernel
theorem txL_at : ∀ (n k : Nat), txL n k = if k < n then litF 0 k &&& 255 else 0
  | 0, k => rfl
  | n + 1, k => by
    rw [txL_up]
    simp only [va_up]
    by_cases h : k = n
    · rw [if_pos h, if_pos (by omega), h]
    · rw [if_neg h, txL_at n k]
      by_cases h2 : k < n
      · rw [if_pos h2, if_pos (by omega)]
      · rw [if_neg h2, if_neg (by omega)]
theorem txL_by : ∀ i, i < 124 → ¬ txL 124 i = -1 := by
  intro i hi
  rw [txL_at, if_pos hi]
  obtain ⟨z, hz, h⟩ := (lit_ok 0 (by decide)).2 i (by rw [litN0]; exact hi)
  rw [h]
  have : ∀ z, z < 128 → ¬ nI z &&& 255 = -1 := by decide +kernel
  exact this z hz
