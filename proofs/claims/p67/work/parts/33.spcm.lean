/-! the class's reading of a text, row by row: what stays -/
theorem va_up_at {α : Type} (f : Nat → α) (i : Nat) (x : α) : va_up f i x i = x := if_pos rfl
theorem WIN_uu (T : Nat → ClassId) (v : Nat → Nat) (B : Nat → Nat → Nat) (O : Nat → Nat → Nat → Int32) (j : Nat) (x y : Nat → Nat → Int32) (g : CSt) (ln un nx pl : Nat) (f0 f1 f2 : Nat → Int32) : WIN T v B (va_up (va_up O j x) j y) g ln un nx pl f0 f1 f2 = WIN T v B (va_up O j y) g ln un nx pl f0 f1 f2 := by rw [va_up_same]
theorem cl1_ok {f : Nat → Int32} {L C : Nat} {s : DSt} (h : gOK L s.2) : gOK L (cl1 f L C s).2 := takN_ok h
theorem ckA_ok {f : Nat → Int32} {L K : Nat} {s : DSt} (h : gOK L s.2) : gOK L (ckA f L K s).2 := takS_ok (takN_ok (takN_ok (takW_ok h)))
theorem coA_ok {f : Nat → Int32} {L N : Nat} {s : DSt} (h : gOK L s.2) : gOK L (coA f L N s).2 := takS_ok (takN_ok (takT_ok (takN_ok (takW_ok h))))
theorem moonC_ok {f : Nat → Int32} {L : Nat} {s : DSt} (h : gOK L s.2) : gOK L (moonC f L s).2 := takS_ok (takN_ok (takN_ok (takN_ok (takW_ok h))))
theorem clL_ok {f : Nat → Int32} {L : Nat} : ∀ {n C : Nat} {s : DSt}, gOK L s.2 → gOK L (clL f L n C s).2.2
  | 0, _, _, h => h
  | n + 1, C, s, h => by
    show gOK L (if clB s then clL f L n (C + 1) (cl1 f L C s) else (C, s)).2.2
    split
    · exact clL_ok (cl1_ok h)
    · exact h
theorem ckL_ok {f : Nat → Int32} {L : Nat} : ∀ {n K : Nat} {s : DSt}, gOK L s.2 → gOK L (ckL f L n K s).2.2
  | 0, _, _, h => h
  | n + 1, K, s, h => by
    show gOK L (if ckB f 3 s then ckL f L n (K + 1) (ckA f L K s) else (K, s)).2.2
    split
    · exact ckL_ok (ckA_ok h)
    · exact h
theorem coL_ok {f : Nat → Int32} {L : Nat} : ∀ {n N : Nat} {s : DSt}, gOK L s.2 → gOK L (coL f L n N s).2.2
  | 0, _, _, h => h
  | n + 1, N, s, h => by
    show gOK L (if ckB f 4 s then coL f L n (N + 1) (coA f L N s) else (N, s)).2.2
    split
    · exact coL_ok (coA_ok h)
    · exact h
theorem cloudsC_ok {f : Nat → Int32} {L : Nat} {s : DSt} (h : gOK L s.2) : gOK L (cloudsC f L s).2.2 := takS_ok (clL_ok (cl1_ok (takW_ok h)))
theorem dS_0 (o : Nat → Nat → Int32) (i j : Nat) (x : Int32) : dS o i x 0 j = if j = i then x else o 0 j := rfl
theorem moonC_0 {f : Nat → Int32} {L : Nat} {s : DSt} {i : Nat} (h : 3 < i) : (moonC f L s).1 0 i = s.1 0 i := by
  unfold moonC
  dsimp only
  rw [dS_0, if_neg (by omega), dS_0, if_neg (by omega), dS_0, if_neg (by omega)]
theorem addCl_0 {o : Nat → Nat → Int32} {C : Nat} {z : Int32} {i : Nat} (h : i ≠ 4) : addCl o C z 0 i = o 0 i := by
  show va_up (o 0) 4 (nI (C + 1)) i = o 0 i
  exact if_neg h
theorem staffAdd_0 {o : Nat → Nat → Int32} {K : Nat} {x y : Int32} {i : Nat} (h : i ≠ 5) : staffAdd o K x y 0 i = o 0 i := by
  show va_up (o 0) 5 (nI (K + 1)) i = o 0 i
  exact if_neg h
theorem cl1_0 {f : Nat → Int32} {L C : Nat} {s : DSt} {i : Nat} (h : i ≠ 4) : (cl1 f L C s).1 0 i = s.1 0 i := addCl_0 (o := s.1) (C := C) (z := numV f 0 9 s.2) h
theorem ckA_0 {f : Nat → Int32} {L K : Nat} {s : DSt} {i : Nat} (h : i ≠ 5) : (ckA f L K s).1 0 i = s.1 0 i := staffAdd_0 (o := s.1) (K := K) (x := numV f 1 9 (ck1 f L s.2)) (y := numV f 0 99 (ck2 f L s.2)) h
theorem clL_0 {f : Nat → Int32} {L i : Nat} (hi : i ≠ 4) : ∀ {n C : Nat} {s : DSt}, (clL f L n C s).2.1 0 i = s.1 0 i
  | 0, _, _ => rfl
  | n + 1, C, s => by
    show (if clB s then clL f L n (C + 1) (cl1 f L C s) else (C, s)).2.1 0 i = _
    split
    · rw [clL_0 hi]; exact cl1_0 hi
    · rfl
theorem ckL_0 {f : Nat → Int32} {L i : Nat} (hi : i ≠ 5) : ∀ {n K : Nat} {s : DSt}, (ckL f L n K s).2.1 0 i = s.1 0 i
  | 0, _, _ => rfl
  | n + 1, K, s => by
    show (if ckB f 3 s then ckL f L n (K + 1) (ckA f L K s) else (K, s)).2.1 0 i = _
    split
    · rw [ckL_0 hi]; exact ckA_0 hi
    · rfl
theorem cloudsC_0 {f : Nat → Int32} {L : Nat} {s : DSt} {i : Nat} (hi : i ≠ 4) : (cloudsC f L s).2.1 0 i = s.1 0 i := by
  unfold cloudsC
  dsimp only
  rw [clL_0 hi]; exact cl1_0 hi
/-- a text read: draft, reader -/
def rd0 (f : Nat → Int32) (L : Nat) (g : CSt) : CSt := rewC f L (g.1, g.2.1, g.2.2.1, false, -1)
def rd1 (f : Nat → Int32) (L : Nat) (s : DSt) : DSt := moonC f L (clearC s.1, rd0 f L s.2)
def rd2 (f : Nat → Int32) (L : Nat) (s : DSt) : Nat × DSt := cloudsC f L (rd1 f L s)
def rd3 (f : Nat → Int32) (L : Nat) (s : DSt) : Nat × DSt := ckL f L 5 0 (rd2 f L s).2
def rd4 (f : Nat → Int32) (L : Nat) (s : DSt) : Nat × DSt := coL f L 24 0 (rd3 f L s).2
def rd5 (f : Nat → Int32) (L : Nat) (s : DSt) : CSt := if (rd4 f L s).2.2.1 = 0 then (rd4 f L s).2.2 else refC (rd4 f L s).2.2
theorem rd0_ok (f : Nat → Int32) (L : Nat) (g : CSt) : gOK L (rd0 f L g) := advC_ok (Nat.zero_le _)
theorem rd1_ok (f : Nat → Int32) (L : Nat) (s : DSt) : gOK L (rd1 f L s).2 := moonC_ok (rd0_ok f L s.2)
theorem rd2_ok (f : Nat → Int32) (L : Nat) (s : DSt) : gOK L (rd2 f L s).2.2 := cloudsC_ok (rd1_ok f L s)
theorem rd3_ok (f : Nat → Int32) (L : Nat) (s : DSt) : gOK L (rd3 f L s).2.2 := ckL_ok (rd2_ok f L s)
theorem rd4_ok (f : Nat → Int32) (L : Nat) (s : DSt) : gOK L (rd4 f L s).2.2 := coL_ok (rd3_ok f L s)
theorem rd1_4 (f : Nat → Int32) (L : Nat) (s : DSt) : (rd1 f L s).1 0 4 = nI 0 := (moonC_0 (by omega)).trans rfl
theorem rd2_5 (f : Nat → Int32) (L : Nat) (s : DSt) : (rd2 f L s).2.1 0 5 = nI 0 := (cloudsC_0 (by omega)).trans ((moonC_0 (by omega)).trans rfl)
theorem rd3_7 (f : Nat → Int32) (L : Nat) (s : DSt) : (rd3 f L s).2.1 0 7 = nI 0 := (ckL_0 (by omega)).trans ((cloudsC_0 (by omega)).trans ((moonC_0 (by omega)).trans rfl))
theorem up_self {α : Type} (f : Nat → α) (i : Nat) : va_up f i (f i) = f := by
  funext k
  simp only [va_up]
  split
  · rename_i e; rw [e]
  · rfl
theorem WIN_at (T : Nat → ClassId) (v : Nat → Nat) (B : Nat → Nat → Nat) (O : Nat → Nat → Nat → Int32) (g : CSt) (ln un nx pl : Nat) (f0 f1 f2 : Nat → Int32) : WIN T v B (va_up O 2 (O 2)) g ln un nx pl f0 f1 f2 = WIN T v B O g ln un nx pl f0 f1 f2 := by rw [up_self]
theorem WIN_setP {D : va_G} {cl : List vw_C} {H : Heap} {T : Nat → ClassId} {v : Nat → Nat} {B : Nat → Nat → Nat} {O : Nat → Nat → Nat → Int32} {g : CSt} {ln un nx pl : Nat} {f0 f1 f2 : Nat → Int32} {j k : Nat} {x : Nat × va_E} {o1 : Nat → Nat → Int32} (hj : j < 13) (hk : k < 14) (hP : va_P D cl ((WIN T v B O g ln un nx pl f0 f1 f2).set (14 * j + k + 11) x) H) (h : (OFF T (B j) (O j)).set k x = OFF T (B j) o1) : va_P D cl (WIN T v B (va_up O j o1) g ln un nx pl f0 f1 f2) H := WIN_set hj hk h ▸ hP
theorem WIN_setD {A : Nat → Prop} {T : Nat → ClassId} {v : Nat → Nat} {B : Nat → Nat → Nat} {O : Nat → Nat → Nat → Int32} {g : CSt} {ln un nx pl : Nat} {f0 f1 f2 : Nat → Int32} {j k : Nat} {x : Nat × va_E} {o1 : Nat → Nat → Int32} (hj : j < 13) (hk : k < 14) (hD : va_D A ((WIN T v B O g ln un nx pl f0 f1 f2).set (14 * j + k + 11) x)) (h : (OFF T (B j) (O j)).set k x = OFF T (B j) o1) : va_D A (WIN T v B (va_up O j o1) g ln un nx pl f0 f1 f2) := WIN_set hj hk h ▸ hD
theorem rd1_is (f : Nat → Int32) (L : Nat) (o : Nat → Nat → Int32) (g : CSt) : moonC f L (clearC o, rd0 f L g) = rd1 f L (o, g) := rfl
theorem ds_eta (s : DSt) : (s.1, s.2) = s := rfl
theorem rd2_is (f : Nat → Int32) (L : Nat) (s : DSt) : cloudsC f L ((rd1 f L s).1, (rd1 f L s).2) = rd2 f L s := by rw [ds_eta, rd2]
theorem rd3_is (f : Nat → Int32) (L : Nat) (s : DSt) : ckL f L 5 0 ((rd2 f L s).2.1, (rd2 f L s).2.2) = rd3 f L s := by rw [ds_eta, rd3]
theorem rd4_is (f : Nat → Int32) (L : Nat) (s : DSt) : coL f L 24 0 ((rd3 f L s).2.1, (rd3 f L s).2.2) = rd4 f L s := by rw [ds_eta, rd4]
theorem sgn_nar : ∀ {q : Nat}, q < 4 → narrow .char (.int (sgnI q)) = .int (sgnI q) := by
  intro q hq
  have : ∀ q, q < 4 → narrow .char (.int (sgnI q)) = .int (sgnI q) := by decide +kernel
  exact this q hq
theorem nI_sub1 (n : Nat) : nI (n + 8) - 1 = nI (n + 7) := by
  have h : nI (n + 8) = nI (n + 7) + 1 := (nI_1 (n + 7)).symm
  rw [h]
  exact Int32.add_sub_cancel _ _
