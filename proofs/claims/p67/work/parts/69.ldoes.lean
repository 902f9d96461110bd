/-! does, asked -/
abbrev S4 : Type := (Nat → Nat → Nat → Int32) × Nat × Nat × (Nat → Int32)
theorem met_do {l : Launch} {y : MethodName} {ws : List Cond} {rm : Room} {P : Array Value → State → Prop} {D : va_G} {T : Nat → ClassId} {A : Nat → Prop} {w1 w0 : va_W} {mc ms : Nat} {R : Int32} {CD : Option String} {S : Type} {px : Int32 → S → Prop} {wu : S → va_W} (u1 u0 : S) (h : Met l y ws rm P (va_Qi (fun r9 (_ : Unit) => r9 = kE R CD) (fun _ t => QS D T A (wC w1 w0 CD) t) A) mc ms A) (e1 : w1 = wu u1) (e0 : w0 = wu u0) (h1 : CD = none → px R u1) (h0 : ∀ E, CD = some E → px (kE R (some E)) u0) : Met l y ws rm P (va_Qi px (fun u t => QS D T A (wu u) t) A) mc ms A := by
  cases CD with
  | none => exact met_ex u1 h e1 (h1 rfl)
  | some E => exact met_ex u0 h e0 (h0 E rfl)
theorem orE_t {a k : Option String} (h : orE a k = none) : a = none ∧ k = none := by
  cases a with
  | none => exact ⟨rfl, h⟩
  | some E => cases h
theorem chkB_some {b : Bool} {E F : String} (h : chkB b E = some F) : F = E := by
  cases b with
  | true => cases h
  | false => exact (Option.some.inj h).symm
theorem nI_ge0 {n : Nat} (h : n < 2 ^ 31) : (0 : Int32) ≤ nI n := (nI_leI (a := 0) (b := n) (by decide) h).mpr (Nat.zero_le _)
theorem rgN {z : Int32} {a b : Nat} (hab : a < 2 ^ 31 ∧ b < 2 ^ 19) (h : rg z (nI a) (nI b) = true) : ∃ q, a ≤ q ∧ q ≤ b ∧ z = nI q := by
  have h9 := h
  unfold rg at h9
  rw [Bool.and_eq_true] at h9
  have h1 := of_decide_eq_true h9.1
  have h2 := of_decide_eq_true h9.2
  obtain ⟨hab, hb⟩ := hab
  · have h3 : rg z 0 (nI b) = true := by
      unfold rg
      rw [Bool.and_eq_true]
      exact ⟨decide_eq_true (Int32.le_trans (nI_ge0 hab) h1), h9.2⟩
    obtain ⟨q, hq, e, -⟩ := rg_nat hb h3
    subst e
    exact ⟨q, (nI_leI hab (by omega)).mp h1, hq, rfl⟩
theorem GW.save {O : Nat → Nat → Nat → Int32} {un nx : Nat} {f2 : Nat → Int32} (h : GW O un nx f2) {j : Nat} (hj : j < 2) : GW (va_up O (11 + j) (O 0)) un nx (va_up f2 j 1) := by
  obtain ⟨h1, h2, h3, h4, h5⟩ := h
  refine ⟨h1, h2, by rw [show va_up O (11 + j) (O 0) 0 = O 0 from if_neg (by omega)]; exact h3, fun i hi => ?_, fun k hk hf => ?_⟩
  · rw [show va_up O (11 + j) (O 0) (3 + (nx + 7 - i) % 8) = O (3 + (nx + 7 - i) % 8) from if_neg (by omega)]; exact h4 i hi
  · by_cases e : k = j
    · subst e; rw [show va_up O (11 + k) (O 0) (11 + k) = O 0 from if_pos rfl]; exact h3
    · rw [show va_up O (11 + j) (O 0) (11 + k) = O (11 + k) from if_neg (by omega)]; exact h5 k hk (by rw [show va_up f2 j 1 k = f2 k from if_neg e] at hf; exact hf)
set_option maxHeartbeats 1000000 in
theorem c_ex_do0 (l : Launch) (hl9 : l.stackTraces = false) (D : va_G) (T : Nat → ClassId) (aK aV : Nat → Nat) (v : Nat → Nat) (B : Nat → Nat → Nat) (O : Nat → Nat → Nat → Int32) (g : CSt) (ln un nx pl : Nat) (f0 f1 f2 : Nat → Int32) (z : Int32) (z1 : Int32) (z2 : Int32) (N K C nt : Nat) (hOV : OV (O 0) N K C nt) (hG : GW O un nx f2) (hnt9 : nt ≤ 999) (sz : Nat) : Met l yL_call wsL_call ({ frames := 10, cells := 4, slots := 24, locals := 215 } : Room) (va_Pc [.ref (v 0), .int (0), .int (z), .int (z1), .int (z2), .int (0), .int (0)] (LWP D T aK aV (WIN T v B O g ln un nx pl f0 f1 f2) sz)) (va_Qi (fun r9 (u : S4) => GW u.1 u.2.1 u.2.2.1 u.2.2.2 ∧ (0 ≤ r9 ∨ u.1 0 = O 0)) (fun u t => QS D T (va_A (WIN T v B O g ln un nx pl f0 f1 f2) sz) (WIN T v B u.1 g ln u.2.1 u.2.2.1 pl f0 f1 u.2.2.2) t) (va_A (WIN T v B O g ln un nx pl f0 f1 f2) sz)) 4 24 (va_A (WIN T v B O g ln un nx pl f0 f1 f2) sz) := by
  refine met_do (S := S4) (wu := fun u => WIN T v B u.1 g ln u.2.1 u.2.2.1 pl f0 f1 u.2.2.2) (va_up (va_up O (3 + nx) (O 0)) 0 (pileAdd (O 0) N z z1 z2 ((O 0) 0 0)), (if un = 8 then 8 else un + 1), ((nx + 1) % 8), f2) (O, un, nx, f2) (c_call_0 l hl9 D T aK aV v B O g ln un nx pl f0 f1 f2 (z) (z1) (z2) (0) (0) N K C nt hOV.oi hG.un8 hG.nx8 sz) rfl rfl (fun hcd => ?_) (fun E hcd => ⟨hG, Or.inr rfl⟩)
  obtain ⟨h1, hcd⟩ := orE_t hcd
  obtain ⟨h2, hcd⟩ := orE_t hcd
  obtain ⟨h3, hcd⟩ := orE_t hcd
  obtain ⟨h4, h5⟩ := orE_t hcd
  obtain ⟨p, -, hp, rfl⟩ := rgN (a := 0) (b := 99) (by decide) (chkB_t h1)
  obtain ⟨q, -, hq, rfl⟩ := rgN (a := 0) (b := 3) (by decide) (chkB_t h2)
  obtain ⟨a, ha, ha9, rfl⟩ := rgN (a := 1) (b := 9) (by decide) (chkB_t h3)
  have hN := of_decide_eq_true (chkB_t h4)
  have hno : findC (O 0) (nI p) (nI q) N = none := Option.isNone_iff_eq_none.mp (chkB_t h5)
  exact ⟨hG.change ⟨_, _, _, _, hnt9, hOV.file hN hp (by omega) (by omega) ha9 hno⟩, Or.inl (nI_ge0 (by omega))⟩

set_option maxHeartbeats 1000000 in
theorem c_ex_do1 (l : Launch) (hl9 : l.stackTraces = false) (D : va_G) (T : Nat → ClassId) (aK aV : Nat → Nat) (v : Nat → Nat) (B : Nat → Nat → Nat) (O : Nat → Nat → Nat → Int32) (g : CSt) (ln un nx pl : Nat) (f0 f1 f2 : Nat → Int32) (z : Int32) (N K C nt : Nat) (hOV : OV (O 0) N K C nt) (hG : GW O un nx f2) (hnt9 : nt ≤ 999) (sz : Nat) : Met l yL_call__ wsL_call__ ({ frames := 11, cells := 4, slots := 24, locals := 242 } : Room) (va_Pc [.ref (v 0), .int (1), .int (z)] (LWP D T aK aV (WIN T v B O g ln un nx pl f0 f1 f2) sz)) (va_Qi (fun r9 (u : S4) => GW u.1 u.2.1 u.2.2.1 u.2.2.2 ∧ (0 ≤ r9 ∨ u.1 0 = O 0)) (fun u t => QS D T (va_A (WIN T v B O g ln un nx pl f0 f1 f2) sz) (WIN T v B u.1 g ln u.2.1 u.2.2.1 pl f0 f1 u.2.2.2) t) (va_A (WIN T v B O g ln un nx pl f0 f1 f2) sz)) 4 24 (va_A (WIN T v B O g ln un nx pl f0 f1 f2) sz) := by
  refine met_do (S := S4) (wu := fun u => WIN T v B u.1 g ln u.2.1 u.2.2.1 pl f0 f1 u.2.2.2) (va_up (va_up O (3 + nx) (O 0)) 0 (pileClose (O 0) z.toNatClampNeg 3 ((O 0) 0 0) (-1)), (if un = 8 then 8 else un + 1), ((nx + 1) % 8), f2) (O, un, nx, f2) (via3 (fun sz => c_call_1 l hl9 D T aK aV v B O g ln un nx pl f0 f1 f2 (z) (0) (0) (0) (0) N K C nt hOV.oi hG.un8 hG.nx8 sz) sz) rfl rfl (fun hcd => ?_) (fun E hcd => ⟨hG, Or.inr rfl⟩)
  obtain ⟨h1, h2⟩ := orE_t hcd
  obtain ⟨j, hj, rfl, ej⟩ := inN_t (by have := hOV.N24; omega) (chkB_t h1)
  have h8 := of_decide_eq_true (chkB_t h2)
  rw [ej] at h8
  obtain ⟨pp, qq, aa, ff, hpp, hqq, haa, ha9, hff, e4, e5, e6, e7, -⟩ := hOV.co j hj
  have hnn : (O 0) 0 0 = nI nt := hOV.oi.2.2.2.2.2.2.2.1
  show GW (va_up (va_up O (3 + nx) (O 0)) 0 (pileClose (O 0) (nI j).toNatClampNeg 3 ((O 0) 0 0) (-1))) _ _ _ ∧ (0 ≤ (O 0) 0 0 - (O 0) 7 (nI j).toNatClampNeg ∨ _)
  rw [ej]
  exact ⟨hG.change ⟨_, _, _, _, hnt9, hOV.give hj h8⟩, Or.inl (by rw [hnn, e7, pk_sub (by omega)]; exact nI_ge0 (by omega))⟩

set_option maxHeartbeats 1000000 in
theorem c_ex_do2 (l : Launch) (hl9 : l.stackTraces = false) (D : va_G) (T : Nat → ClassId) (aK aV : Nat → Nat) (v : Nat → Nat) (B : Nat → Nat → Nat) (O : Nat → Nat → Nat → Int32) (g : CSt) (ln un nx pl : Nat) (f0 f1 f2 : Nat → Int32) (z : Int32) (z1 : Int32) (N K C nt : Nat) (hOV : OV (O 0) N K C nt) (hG : GW O un nx f2) (hnt9 : nt ≤ 999) (sz : Nat) : Met l yL_call_ wsL_call_ ({ frames := 11, cells := 4, slots := 24, locals := 242 } : Room) (va_Pc [.ref (v 0), .int (2), .int (z), .int (z1)] (LWP D T aK aV (WIN T v B O g ln un nx pl f0 f1 f2) sz)) (va_Qi (fun r9 (u : S4) => GW u.1 u.2.1 u.2.2.1 u.2.2.2 ∧ (0 ≤ r9 ∨ u.1 0 = O 0)) (fun u t => QS D T (va_A (WIN T v B O g ln un nx pl f0 f1 f2) sz) (WIN T v B u.1 g ln u.2.1 u.2.2.1 pl f0 f1 u.2.2.2) t) (va_A (WIN T v B O g ln un nx pl f0 f1 f2) sz)) 4 24 (va_A (WIN T v B O g ln un nx pl f0 f1 f2) sz) := by
  refine met_do (S := S4) (wu := fun u => WIN T v B u.1 g ln u.2.1 u.2.2.1 pl f0 f1 u.2.2.2) (va_up (va_up O (3 + nx) (O 0)) 0 (staffAdd (O 0) K z z1), (if un = 8 then 8 else un + 1), ((nx + 1) % 8), f2) (O, un, nx, f2) (via4 (fun sz => c_call_2 l hl9 D T aK aV v B O g ln un nx pl f0 f1 f2 (z) (z1) (0) (0) (0) N K C nt hOV.oi hG.un8 hG.nx8 sz) sz) rfl rfl (fun hcd => ?_) (fun E hcd => ⟨hG, Or.inr rfl⟩)
  obtain ⟨h1, hcd⟩ := orE_t hcd
  obtain ⟨h2, h3⟩ := orE_t hcd
  obtain ⟨p, hp1, hp, rfl⟩ := rgN (a := 1) (b := 9) (by decide) (chkB_t h1)
  obtain ⟨q, -, hq, rfl⟩ := rgN (a := 0) (b := 99) (by decide) (chkB_t h2)
  have hK := of_decide_eq_true (chkB_t h3)
  exact ⟨hG.change ⟨_, _, _, _, hnt9, hOV.hire hK hp hq⟩, Or.inl (nI_ge0 (by have := hOV.K5; omega))⟩

set_option maxHeartbeats 1000000 in
theorem c_ex_do3 (l : Launch) (hl9 : l.stackTraces = false) (D : va_G) (T : Nat → ClassId) (aK aV : Nat → Nat) (v : Nat → Nat) (B : Nat → Nat → Nat) (O : Nat → Nat → Nat → Int32) (g : CSt) (ln un nx pl : Nat) (f0 f1 f2 : Nat → Int32) (z : Int32) (z1 : Int32) (N K C nt : Nat) (hOV : OV (O 0) N K C nt) (hG : GW O un nx f2) (hnt9 : nt ≤ 999) (sz : Nat) : Met l yL_call_ wsL_call_ ({ frames := 11, cells := 4, slots := 24, locals := 242 } : Room) (va_Pc [.ref (v 0), .int (3), .int (z), .int (z1)] (LWP D T aK aV (WIN T v B O g ln un nx pl f0 f1 f2) sz)) (va_Qi (fun r9 (u : S4) => GW u.1 u.2.1 u.2.2.1 u.2.2.2 ∧ (0 ≤ r9 ∨ u.1 0 = O 0)) (fun u t => QS D T (va_A (WIN T v B O g ln un nx pl f0 f1 f2) sz) (WIN T v B u.1 g ln u.2.1 u.2.2.1 pl f0 f1 u.2.2.2) t) (va_A (WIN T v B O g ln un nx pl f0 f1 f2) sz)) 4 24 (va_A (WIN T v B O g ln un nx pl f0 f1 f2) sz) := by
  refine met_do (S := S4) (wu := fun u => WIN T v B u.1 g ln u.2.1 u.2.2.1 pl f0 f1 u.2.2.2) (va_up (va_up O (3 + nx) (O 0)) 0 (va_up (O 0) 3 (va_up ((O 0) 3) z.toNatClampNeg (if (O 0) 3 z.toNatClampNeg + z1 < 99 then (O 0) 3 z.toNatClampNeg + z1 else 99))), (if un = 8 then 8 else un + 1), ((nx + 1) % 8), f2) (O, un, nx, f2) (via4 (fun sz => c_call_3 l hl9 D T aK aV v B O g ln un nx pl f0 f1 f2 (z) (z1) (0) (0) (0) N K C nt hOV.oi hG.un8 hG.nx8 sz) sz) rfl rfl (fun hcd => ?_) (fun E hcd => ⟨hG, Or.inr rfl⟩)
  obtain ⟨h1, h2⟩ := orE_t hcd
  obtain ⟨j, hj, rfl, ej⟩ := inN_t (by have := hOV.K5; omega) (chkB_t h1)
  obtain ⟨q, -, hq, rfl⟩ := rgN (a := 1) (b := 99) (by decide) (chkB_t h2)
  obtain ⟨a, ha, ea⟩ := hOV.oil j hj
  have hx : ∃ w, w ≤ 99 ∧ (if (O 0) 3 (nI j).toNatClampNeg + nI q < 99 then (O 0) 3 (nI j).toNatClampNeg + nI q else 99) = nI w := by
    rw [ej, ea, nI_add]; split
    · rename_i h9; exact ⟨a + q, by have := (nI_ltI (a := a + q) (b := 99) (by omega) (by decide)).mp h9; omega, rfl⟩
    · exact ⟨99, Nat.le_refl _, rfl⟩
  refine ⟨hG.change ⟨_, _, _, _, hnt9, hOV.lamp hx⟩, Or.inl ?_⟩
  obtain ⟨w, hw, ew⟩ := hx
  show 0 ≤ (if (O 0) 3 (nI j).toNatClampNeg + nI q < 99 then (O 0) 3 (nI j).toNatClampNeg + nI q else 99)
  rw [ew]; exact nI_ge0 (by omega)

set_option maxHeartbeats 1000000 in
theorem c_ex_do4 (l : Launch) (hl9 : l.stackTraces = false) (D : va_G) (T : Nat → ClassId) (aK aV : Nat → Nat) (v : Nat → Nat) (B : Nat → Nat → Nat) (O : Nat → Nat → Nat → Int32) (g : CSt) (ln un nx pl : Nat) (f0 f1 f2 : Nat → Int32) (z : Int32) (z1 : Int32) (N K C nt : Nat) (hOV : OV (O 0) N K C nt) (hG : GW O un nx f2) (hnt9 : nt ≤ 999) (sz : Nat) : Met l yL_call_ wsL_call_ ({ frames := 11, cells := 4, slots := 24, locals := 242 } : Room) (va_Pc [.ref (v 0), .int (4), .int (z), .int (z1)] (LWP D T aK aV (WIN T v B O g ln un nx pl f0 f1 f2) sz)) (va_Qi (fun r9 (u : S4) => GW u.1 u.2.1 u.2.2.1 u.2.2.2 ∧ (0 ≤ r9 ∨ u.1 0 = O 0)) (fun u t => QS D T (va_A (WIN T v B O g ln un nx pl f0 f1 f2) sz) (WIN T v B u.1 g ln u.2.1 u.2.2.1 pl f0 f1 u.2.2.2) t) (va_A (WIN T v B O g ln un nx pl f0 f1 f2) sz)) 4 24 (va_A (WIN T v B O g ln un nx pl f0 f1 f2) sz) := by
  refine met_do (S := S4) (wu := fun u => WIN T v B u.1 g ln u.2.1 u.2.2.1 pl f0 f1 u.2.2.2) (va_up (va_up O (3 + nx) (O 0)) 0 (va_up (O 0) 1 (va_up ((O 0) 1) z.toNatClampNeg z1)), (if un = 8 then 8 else un + 1), ((nx + 1) % 8), f2) (O, un, nx, f2) (via4 (fun sz => c_call_4 l hl9 D T aK aV v B O g ln un nx pl f0 f1 f2 (z) (z1) (0) (0) (0) N K C nt hOV.oi hG.un8 hG.nx8 sz) sz) rfl rfl (fun hcd => ?_) (fun E hcd => ⟨hG, Or.inr rfl⟩)
  obtain ⟨h1, h2⟩ := orE_t hcd
  have hC := hOV.oi.2.2.2.2.2.2.1
  obtain ⟨j, hj, rfl, ej⟩ := inN_t (by omega) (chkB_t h1)
  obtain ⟨q, -, hq, rfl⟩ := rgN (a := 0) (b := 9) (by decide) (chkB_t h2)
  obtain ⟨a, ha, ea⟩ := hOV.cl j hj
  refine ⟨hG.change ⟨_, _, _, _, hnt9, hOV.cloud hq⟩, Or.inl ?_⟩
  show 0 ≤ (O 0) 1 (nI j).toNatClampNeg
  rw [ej, ea]; exact nI_ge0 (by omega)

set_option maxHeartbeats 1000000 in
theorem c_ex_do5 (l : Launch) (hl9 : l.stackTraces = false) (D : va_G) (T : Nat → ClassId) (aK aV : Nat → Nat) (v : Nat → Nat) (B : Nat → Nat → Nat) (O : Nat → Nat → Nat → Int32) (g : CSt) (ln un nx pl : Nat) (f0 f1 f2 : Nat → Int32) (z : Int32) (N K C nt : Nat) (hOV : OV (O 0) N K C nt) (hG : GW O un nx f2) (hnt9 : nt ≤ 999) (sz : Nat) : Met l yL_call__ wsL_call__ ({ frames := 11, cells := 4, slots := 24, locals := 242 } : Room) (va_Pc [.ref (v 0), .int (5), .int (z)] (LWP D T aK aV (WIN T v B O g ln un nx pl f0 f1 f2) sz)) (va_Qi (fun r9 (u : S4) => GW u.1 u.2.1 u.2.2.1 u.2.2.2 ∧ (0 ≤ r9 ∨ u.1 0 = O 0)) (fun u t => QS D T (va_A (WIN T v B O g ln un nx pl f0 f1 f2) sz) (WIN T v B u.1 g ln u.2.1 u.2.2.1 pl f0 f1 u.2.2.2) t) (va_A (WIN T v B O g ln un nx pl f0 f1 f2) sz)) 4 24 (va_A (WIN T v B O g ln un nx pl f0 f1 f2) sz) := by
  refine met_do (S := S4) (wu := fun u => WIN T v B u.1 g ln u.2.1 u.2.2.1 pl f0 f1 u.2.2.2) (va_up (va_up O (3 + nx) (O 0)) 0 (dS (O 0) 1 z), (if un = 8 then 8 else un + 1), ((nx + 1) % 8), f2) (O, un, nx, f2) (via3 (fun sz => c_call_5 l hl9 D T aK aV v B O g ln un nx pl f0 f1 f2 (z) (0) (0) (0) (0) N K C nt hOV.oi hG.un8 hG.nx8 sz) sz) rfl rfl (fun hcd => ?_) (fun E hcd => ⟨hG, Or.inr rfl⟩)
  obtain ⟨q, -, hq, rfl⟩ := rgN (a := 1) (b := 14) (by decide) (chkB_t hcd)
  obtain ⟨x9, hx9, ex9⟩ := hOV.lm 1 (by decide)
  refine ⟨hG.change ⟨_, _, _, _, hnt9, hOV.lim (i := 1) (by decide) ⟨q, by omega, rfl⟩⟩, Or.inl ?_⟩
  show 0 ≤ (O 0) 0 1
  rw [ex9]; exact nI_ge0 (by omega)

set_option maxHeartbeats 1000000 in
theorem c_ex_do6 (l : Launch) (hl9 : l.stackTraces = false) (D : va_G) (T : Nat → ClassId) (aK aV : Nat → Nat) (v : Nat → Nat) (B : Nat → Nat → Nat) (O : Nat → Nat → Nat → Int32) (g : CSt) (ln un nx pl : Nat) (f0 f1 f2 : Nat → Int32) (z : Int32) (N K C nt : Nat) (hOV : OV (O 0) N K C nt) (hG : GW O un nx f2) (hnt9 : nt ≤ 999) (sz : Nat) : Met l yL_call__ wsL_call__ ({ frames := 11, cells := 4, slots := 24, locals := 242 } : Room) (va_Pc [.ref (v 0), .int (6), .int (z)] (LWP D T aK aV (WIN T v B O g ln un nx pl f0 f1 f2) sz)) (va_Qi (fun r9 (u : S4) => GW u.1 u.2.1 u.2.2.1 u.2.2.2 ∧ (0 ≤ r9 ∨ u.1 0 = O 0)) (fun u t => QS D T (va_A (WIN T v B O g ln un nx pl f0 f1 f2) sz) (WIN T v B u.1 g ln u.2.1 u.2.2.1 pl f0 f1 u.2.2.2) t) (va_A (WIN T v B O g ln un nx pl f0 f1 f2) sz)) 4 24 (va_A (WIN T v B O g ln un nx pl f0 f1 f2) sz) := by
  refine met_do (S := S4) (wu := fun u => WIN T v B u.1 g ln u.2.1 u.2.2.1 pl f0 f1 u.2.2.2) (va_up (va_up O (3 + nx) (O 0)) 0 (dS (O 0) 2 z), (if un = 8 then 8 else un + 1), ((nx + 1) % 8), f2) (O, un, nx, f2) (via3 (fun sz => c_call_6 l hl9 D T aK aV v B O g ln un nx pl f0 f1 f2 (z) (0) (0) (0) (0) N K C nt hOV.oi hG.un8 hG.nx8 sz) sz) rfl rfl (fun hcd => ?_) (fun E hcd => ⟨hG, Or.inr rfl⟩)
  obtain ⟨q, -, hq, rfl⟩ := rgN (a := 0) (b := 13) (by decide) (chkB_t hcd)
  obtain ⟨x9, hx9, ex9⟩ := hOV.lm 2 (by decide)
  refine ⟨hG.change ⟨_, _, _, _, hnt9, hOV.lim (i := 2) (by decide) ⟨q, by omega, rfl⟩⟩, Or.inl ?_⟩
  show 0 ≤ (O 0) 0 2
  rw [ex9]; exact nI_ge0 (by omega)

set_option maxHeartbeats 1000000 in
theorem c_ex_do7 (l : Launch) (hl9 : l.stackTraces = false) (D : va_G) (T : Nat → ClassId) (aK aV : Nat → Nat) (v : Nat → Nat) (B : Nat → Nat → Nat) (O : Nat → Nat → Nat → Int32) (g : CSt) (ln un nx pl : Nat) (f0 f1 f2 : Nat → Int32) (z : Int32) (N K C nt : Nat) (hOV : OV (O 0) N K C nt) (hG : GW O un nx f2) (hnt9 : nt ≤ 999) (sz : Nat) : Met l yL_call__ wsL_call__ ({ frames := 11, cells := 4, slots := 24, locals := 242 } : Room) (va_Pc [.ref (v 0), .int (7), .int (z)] (LWP D T aK aV (WIN T v B O g ln un nx pl f0 f1 f2) sz)) (va_Qi (fun r9 (u : S4) => GW u.1 u.2.1 u.2.2.1 u.2.2.2 ∧ (0 ≤ r9 ∨ u.1 0 = O 0)) (fun u t => QS D T (va_A (WIN T v B O g ln un nx pl f0 f1 f2) sz) (WIN T v B u.1 g ln u.2.1 u.2.2.1 pl f0 f1 u.2.2.2) t) (va_A (WIN T v B O g ln un nx pl f0 f1 f2) sz)) 4 24 (va_A (WIN T v B O g ln un nx pl f0 f1 f2) sz) := by
  refine met_do (S := S4) (wu := fun u => WIN T v B u.1 g ln u.2.1 u.2.2.1 pl f0 f1 u.2.2.2) (va_up (va_up O (3 + nx) (O 0)) 0 (dS (O 0) 3 z), (if un = 8 then 8 else un + 1), ((nx + 1) % 8), f2) (O, un, nx, f2) (via3 (fun sz => c_call_7 l hl9 D T aK aV v B O g ln un nx pl f0 f1 f2 (z) (0) (0) (0) (0) N K C nt hOV.oi hG.un8 hG.nx8 sz) sz) rfl rfl (fun hcd => ?_) (fun E hcd => ⟨hG, Or.inr rfl⟩)
  obtain ⟨q, -, hq, rfl⟩ := rgN (a := 0) (b := 7) (by decide) (chkB_t hcd)
  obtain ⟨x9, hx9, ex9⟩ := hOV.lm 3 (by decide)
  refine ⟨hG.change ⟨_, _, _, _, hnt9, hOV.lim (i := 3) (by decide) ⟨q, by omega, rfl⟩⟩, Or.inl ?_⟩
  show 0 ≤ (O 0) 0 3
  rw [ex9]; exact nI_ge0 (by omega)

set_option maxHeartbeats 1000000 in
theorem c_ex_do8 (l : Launch) (hl9 : l.stackTraces = false) (D : va_G) (T : Nat → ClassId) (aK aV : Nat → Nat) (v : Nat → Nat) (B : Nat → Nat → Nat) (O : Nat → Nat → Nat → Int32) (g : CSt) (ln un nx pl : Nat) (f0 f1 f2 : Nat → Int32) (z : Int32) (N K C nt : Nat) (hOV : OV (O 0) N K C nt) (hG : GW O un nx f2) (hnt9 : nt ≤ 999) (sz : Nat) : Met l yL_call__ wsL_call__ ({ frames := 11, cells := 4, slots := 24, locals := 242 } : Room) (va_Pc [.ref (v 0), .int (8), .int (z)] (LWP D T aK aV (WIN T v B O g ln un nx pl f0 f1 f2) sz)) (va_Qi (fun r9 (u : S4) => GW u.1 u.2.1 u.2.2.1 u.2.2.2 ∧ (0 ≤ r9 ∨ u.1 0 = O 0)) (fun u t => QS D T (va_A (WIN T v B O g ln un nx pl f0 f1 f2) sz) (WIN T v B u.1 g ln u.2.1 u.2.2.1 pl f0 f1 u.2.2.2) t) (va_A (WIN T v B O g ln un nx pl f0 f1 f2) sz)) 4 24 (va_A (WIN T v B O g ln un nx pl f0 f1 f2) sz) := by
  refine met_do (S := S4) (wu := fun u => WIN T v B u.1 g ln u.2.1 u.2.2.1 pl f0 f1 u.2.2.2) (va_up (va_up O (3 + nx) (O 0)) 0 ((iter (endsC N K C nt) z.toNatClampNeg 0 (0, O 0)).2), (if un = 8 then 8 else un + 1), ((nx + 1) % 8), f2) (O, un, nx, f2) (via3 (fun sz => c_call_8 l hl9 D T aK aV v B O g ln un nx pl f0 f1 f2 (z) (0) (0) (0) (0) N K C nt hOV.oi hG.un8 hG.nx8 sz) sz) rfl rfl (fun hcd => ?_) (fun E hcd => ⟨hG, Or.inr rfl⟩)
  obtain ⟨h1, h2⟩ := orE_t hcd
  obtain ⟨n, hn, hn60, rfl⟩ := rgN (a := 1) (b := 60) (by decide) (chkB_t h1)
  have en : (nI n).toNatClampNeg = n := nI_clamp (by omega)
  have h9 := of_decide_eq_true (chkB_t h2)
  rw [en] at h9
  obtain ⟨an, han, ean⟩ := ends_nn (N := N) (K := K) (C := C) (nt := nt) (o := O 0) hOV n (by omega) hn60
  show GW (va_up (va_up O (3 + nx) (O 0)) 0 ((iter (endsC N K C nt) (nI n).toNatClampNeg 0 (0, O 0)).2)) _ _ _ ∧ (0 ≤ (iter (endsC N K C nt) (nI n).toNatClampNeg 0 (0, O 0)).1 ∨ _)
  rw [en]
  exact ⟨hG.change ⟨_, _, _, _, h9, by rw [ends_pN n 0 0 (O 0)]; exact hOV.pN n (by omega)⟩, Or.inl (by rw [ean]; exact nI_ge0 (by omega))⟩

set_option maxHeartbeats 1000000 in
theorem c_ex_do9 (l : Launch) (hl9 : l.stackTraces = false) (D : va_G) (T : Nat → ClassId) (aK aV : Nat → Nat) (v : Nat → Nat) (B : Nat → Nat → Nat) (O : Nat → Nat → Nat → Int32) (g : CSt) (ln un nx pl : Nat) (f0 f1 f2 : Nat → Int32) (N K C nt : Nat) (hOV : OV (O 0) N K C nt) (hG : GW O un nx f2) (hnt9 : nt ≤ 999) (sz : Nat) : Met l yL_call__ wsL_call__ ({ frames := 11, cells := 4, slots := 24, locals := 242 } : Room) (va_Pc [.ref (v 0), .int (9), .int (0)] (LWP D T aK aV (WIN T v B O g ln un nx pl f0 f1 f2) sz)) (va_Qi (fun r9 (u : S4) => GW u.1 u.2.1 u.2.2.1 u.2.2.2 ∧ ¬ r9 = -104) (fun u t => QS D T (va_A (WIN T v B O g ln un nx pl f0 f1 f2) sz) (WIN T v B u.1 g ln u.2.1 u.2.2.1 pl f0 f1 u.2.2.2) t) (va_A (WIN T v B O g ln un nx pl f0 f1 f2) sz)) 4 24 (va_A (WIN T v B O g ln un nx pl f0 f1 f2) sz) := by
  refine met_do (S := S4) (wu := fun u => WIN T v B u.1 g ln u.2.1 u.2.2.1 pl f0 f1 u.2.2.2) (va_up O 0 (O (3 + (nx + 7) % 8)), un - 1, (nx + 7) % 8, f2) (O, un, nx, f2) (via3 (fun sz => c_call_9 l hl9 D T aK aV v B O g ln un nx pl f0 f1 f2 (0) (0) (0) (0) (0)  hG.un8 hG.nx8 sz) sz) rfl rfl (fun hcd => ?_) (fun E hcd => ⟨hG, by rw [chkB_some hcd]; show ¬ ((-102 : Int32) = -104); decide⟩)
  have hu := chkB_t hcd
  have hu9 : ¬ un = 0 := fun e => by rw [decide_eq_true e] at hu; cases hu
  exact ⟨hG.pop (by omega), nI_nneg (by have := hG.un8; omega) (by decide)⟩

set_option maxHeartbeats 1000000 in
theorem c_ex_do10 (l : Launch) (hl9 : l.stackTraces = false) (D : va_G) (T : Nat → ClassId) (aK aV : Nat → Nat) (v : Nat → Nat) (B : Nat → Nat → Nat) (O : Nat → Nat → Nat → Int32) (g : CSt) (ln un nx pl : Nat) (f0 f1 f2 : Nat → Int32) (z : Int32) (N K C nt : Nat) (hOV : OV (O 0) N K C nt) (hG : GW O un nx f2) (hnt9 : nt ≤ 999) (sz : Nat) : Met l yL_call__ wsL_call__ ({ frames := 11, cells := 4, slots := 24, locals := 242 } : Room) (va_Pc [.ref (v 0), .int (10), .int (z)] (LWP D T aK aV (WIN T v B O g ln un nx pl f0 f1 f2) sz)) (va_Qi (fun r9 (u : S4) => GW u.1 u.2.1 u.2.2.1 u.2.2.2 ∧ (0 ≤ r9 ∨ u.1 0 = O 0)) (fun u t => QS D T (va_A (WIN T v B O g ln un nx pl f0 f1 f2) sz) (WIN T v B u.1 g ln u.2.1 u.2.2.1 pl f0 f1 u.2.2.2) t) (va_A (WIN T v B O g ln un nx pl f0 f1 f2) sz)) 4 24 (va_A (WIN T v B O g ln un nx pl f0 f1 f2) sz) := by
  refine met_do (S := S4) (wu := fun u => WIN T v B u.1 g ln u.2.1 u.2.2.1 pl f0 f1 u.2.2.2) (va_up O (11 + z.toNatClampNeg) (O 0), un, nx, va_up f2 z.toNatClampNeg 1) (O, un, nx, f2) (via3 (fun sz => c_call_10 l hl9 D T aK aV v B O g ln un nx pl f0 f1 f2 (z) (0) (0) (0) (0)   sz) sz) rfl rfl (fun hcd => ?_) (fun E hcd => ⟨hG, Or.inr rfl⟩)
  obtain ⟨j, hj, rfl, ej⟩ := inN_t (by decide) (chkB_t hcd)
  have hnn : (O 0) 0 0 = nI nt := hOV.oi.2.2.2.2.2.2.2.1
  refine ⟨?_, Or.inl (by rw [hnn]; exact nI_ge0 (by omega))⟩
  show GW (va_up O (11 + (nI j).toNatClampNeg) (O 0)) un nx (va_up f2 (nI j).toNatClampNeg 1)
  rw [ej]; exact hG.save hj

set_option maxHeartbeats 1000000 in
theorem c_ex_do11 (l : Launch) (hl9 : l.stackTraces = false) (D : va_G) (T : Nat → ClassId) (aK aV : Nat → Nat) (v : Nat → Nat) (B : Nat → Nat → Nat) (O : Nat → Nat → Nat → Int32) (g : CSt) (ln un nx pl : Nat) (f0 f1 f2 : Nat → Int32) (z : Int32) (N K C nt : Nat) (hOV : OV (O 0) N K C nt) (hG : GW O un nx f2) (hnt9 : nt ≤ 999) (sz : Nat) : Met l yL_call__ wsL_call__ ({ frames := 11, cells := 4, slots := 24, locals := 242 } : Room) (va_Pc [.ref (v 0), .int (11), .int (z)] (LWP D T aK aV (WIN T v B O g ln un nx pl f0 f1 f2) sz)) (va_Qi (fun r9 (u : S4) => GW u.1 u.2.1 u.2.2.1 u.2.2.2 ∧ (0 ≤ r9 ∨ u.1 0 = O 0)) (fun u t => QS D T (va_A (WIN T v B O g ln un nx pl f0 f1 f2) sz) (WIN T v B u.1 g ln u.2.1 u.2.2.1 pl f0 f1 u.2.2.2) t) (va_A (WIN T v B O g ln un nx pl f0 f1 f2) sz)) 4 24 (va_A (WIN T v B O g ln un nx pl f0 f1 f2) sz) := by
  refine met_do (S := S4) (wu := fun u => WIN T v B u.1 g ln u.2.1 u.2.2.1 pl f0 f1 u.2.2.2) (va_up (va_up O (3 + nx) (O 0)) 0 (O (11 + z.toNatClampNeg)), (if un = 8 then 8 else un + 1), ((nx + 1) % 8), f2) (O, un, nx, f2) (via3 (fun sz => c_call_11 l hl9 D T aK aV v B O g ln un nx pl f0 f1 f2 (z) (0) (0) (0) (0)  hG.un8 hG.nx8 sz) sz) rfl rfl (fun hcd => ?_) (fun E hcd => ⟨hG, Or.inr rfl⟩)
  obtain ⟨h1, h2⟩ := orE_t hcd
  obtain ⟨j, hj, rfl, ej⟩ := inN_t (by decide) (chkB_t h1)
  have hf := chkB_t h2
  rw [ej] at hf
  have hf9 : ¬ f2 j = 0 := fun e => by rw [decide_eq_true e] at hf; cases hf
  have hk := hG.2.2.2.2 j hj hf9
  show GW (va_up (va_up O (3 + nx) (O 0)) 0 (O (11 + (nI j).toNatClampNeg))) _ _ _ ∧ (0 ≤ (O (11 + (nI j).toNatClampNeg)) 0 0 ∨ _)
  rw [ej]
  refine ⟨hG.change hk, Or.inl ?_⟩
  obtain ⟨N9, K9, C9, n9, hn9, h9⟩ := hk
  rw [show (O (11 + j)) 0 0 = nI n9 from h9.oi.2.2.2.2.2.2.2.1]; exact nI_ge0 (n := n9) (Nat.lt_of_le_of_lt hn9 (by decide))

set_option maxHeartbeats 8000000 in
set_option maxRecDepth 100000 in
theorem c_L_does (l : Launch) (hl9 : l.stackTraces = false) (D : va_G) (T : Nat → ClassId) (aK aV : Nat → Nat) (v : Nat → Nat) (B : Nat → Nat → Nat) (O : Nat → Nat → Nat → Int32) (g : CSt) (ln un nx pl : Nat) (f0 f1 f2 : Nat → Int32) (w : Nat) (vv : Nat)  (N K C nt : Nat) (hOI : OI (O 0) N K C nt) (hw : w < 2 ^ 31) (hvv : vv < 2 ^ 31) (hOV : OV (O 0) N K C nt) (hG : GW O un nx f2) (hnt9 : nt ≤ 999) (sz : Nat) : Met l yL_does wsL_does ({ frames := 13, cells := 2900, slots := 17400, locals := 288 } : Room) (va_Pc [.ref (v 0), .int (nI w), .int (nI vv)] (LWP D T aK aV (WIN T v B O g ln un nx pl f0 f1 f2) sz)) (va_Qi (fun r9 (u : S4) => r9 = 1 ∧ GW u.1 u.2.1 u.2.2.1 u.2.2.2) (fun u t => QS D T (va_A (WIN T v B O g ln un nx pl f0 f1 f2) sz) (WIN T v B u.1 g ln u.2.1 u.2.2.1 pl f0 f1 u.2.2.2) t) (va_A (WIN T v B O g ln un nx pl f0 f1 f2) sz)) 2900 17400 (va_A (WIN T v B O g ln un nx pl f0 f1 f2) sz) := by
  refine metUi (cc := cL_does) (maxL := 6) (ty := .boolean) (by decide) rfl (fun r u h => by rw [h.1]; rfl) (Nat.le_of_ble_eq_true rfl) ?_
  intro p e s m args below meth c Q ls A hx hb hml hown hts hNC hC hP hK hD hA hS hl hret
  have hown : s.vm.findClass RL = some m.cls := hown
  have hl : lv_has ls 6 [(0, .ref (v 0)), (1, .int (nI w)), (2, .int (nI vv))] := hl
  have hOI : OI (O 0) N K C nt := hOV.oi
  obtain ⟨hN, hN2, hKn, hK2, hCn, hC1, hC2, hn, hnt, hSK⟩ := id hOI
  have hgo : ∀ (H : Heap) (locs : List Loc), va_P D vwCl (WIN T v B O g ln un nx pl f0 f1 f2) H → va_S A s.heap H locs → W p l e ({ frames := 13, cells := 2900, slots := 17400, locals := 288 } : Room) s m args below meth c H locs (0) (0) Q (F0 m 0 ls []) := by
    intro H locs hP hS
    refine lv_aload_n hx hb dL_does_0 rfl (lv_at hl 0 rfl) ?_
    refine lqSl (As := [.ref (v 0)]) (rest := []) ⟨hx, hb, hml, hown, hts⟩ (c_L_state l hl9 D T aK aV v B O g ln un nx pl f0 f1 f2 N K C nt hOI _) (va_cwS 1 hts (gC gl_L_state) rfl rfl rfl (by decide +kernel) ⟨Nat.le_of_ble_eq_true rfl, Nat.le_of_ble_eq_true rfl⟩) (Foc.rfl _ _) hC hNC hK hP hD hS hA rfl hl.1 rfl (Nat.le_of_ble_eq_true rfl) ⟨by show _ ≤ 2900; omega, by show _ ≤ 17400; omega⟩ dL_does_1 (fun H locs hP hD hS => ?_)
    have hP : va_P D vwCl (WIN T v B O g ln un nx pl f0 f1 f2) H := hP
    have hD : va_D A (WIN T v B O g ln un nx pl f0 f1 f2) := hD
    refine lv_lstore_n (lv' := [(3, .long (stC (O 0) N K C)), (0, .ref (v 0)), (1, .int (nI w)), (2, .int (nI vv))]) hx hb dL_does_4 rfl hl (by decide) rfl (fun ls hl => ?_)
    refine lv_iload_n hx hb dL_does_5 rfl (lv_at hl 2 rfl) ?_
    refine lv_bipush (v := 15) hx hb dL_does_6 (by decide) ?_
    refine lv_iand hx hb dL_does_8 ?_
    obtain ⟨wq, hwq⟩ : ∃ q, q = w % 2 ^ 4 := ⟨_, rfl⟩
    have hwq16 : wq < 16 := by rw [hwq]; exact Nat.mod_lt _ (by decide)
    refine endI (r := nI wq) (by rw [hwq]; exact nI_and w 4 hw (by decide)) ?_
    obtain rfl | rfl | rfl | rfl | rfl | rfl | rfl | rfl | rfl | rfl | rfl | rfl | rfl | rfl | rfl | rfl : wq = 0 ∨ wq = 1 ∨ wq = 2 ∨ wq = 3 ∨ wq = 4 ∨ wq = 5 ∨ wq = 6 ∨ wq = 7 ∨ wq = 8 ∨ wq = 9 ∨ wq = 10 ∨ wq = 11 ∨ wq = 12 ∨ wq = 13 ∨ wq = 14 ∨ wq = 15 := by omega
    ·
      refine lv_tableIn (off := 75) (tgt := 84) hx hb dL_does_9 (by decide) (by decide) (by decide) (by decide) ?_
      refine lv_aload_n hx hb dL_does_84 rfl (lv_at hl 1 rfl) ?_
      refine lv_iconst (v := 0) hx hb dL_does_85 (by decide) ?_
      refine lv_iload_n hx hb dL_does_86 rfl (lv_at hl 3 rfl) ?_
      refine lv_bipush (v := 127) hx hb dL_does_87 (by decide) ?_
      refine lv_iand hx hb dL_does_89 ?_
      refine endI (r := nI (vv % 2 ^ 7)) (nI_and vv 7 hvv (by decide)) ?_
      refine lv_iload_n hx hb dL_does_90 rfl (lv_at hl 3 rfl) ?_
      refine lv_iconst (v := 4) hx hb dL_does_91 (by decide) ?_
      refine lv_ishr hx hb dL_does_92 ?_
      refine endI (r := nI (vv / 2 ^ 4)) (nI_shr (k := 4) hvv (by decide)) ?_
      refine lv_iconst (v := 3) hx hb dL_does_93 (by decide) ?_
      refine lv_iand hx hb dL_does_94 ?_
      refine endI (r := nI (vv / 2 ^ 4 % 2 ^ 2)) (nI_and (vv / 2 ^ 4) 2 (Nat.lt_of_le_of_lt (Nat.div_le_self _ _) hvv) (by decide)) ?_
      refine lv_iload_n hx hb dL_does_95 rfl (lv_at hl 3 rfl) ?_
      refine lv_bipush (v := 6) hx hb dL_does_96 (by decide) ?_
      refine lv_ishr hx hb dL_does_98 ?_
      refine endI (r := nI (vv / 2 ^ 6)) (nI_shr (k := 6) hvv (by decide)) ?_
      refine lv_sipush (v := 255) hx hb dL_does_99 (by decide) ?_
      refine lv_iand hx hb dL_does_102 ?_
      refine endI (r := nI (vv / 2 ^ 6 % 2 ^ 8)) (nI_and (vv / 2 ^ 6) 8 (Nat.lt_of_le_of_lt (Nat.div_le_self _ _) hvv) (by decide)) ?_
      refine lv_bipush (v := 10) hx hb dL_does_103 (by decide) ?_
      refine lv_irem hx hb dL_does_105 (by decide) ?_
      refine endI (r := nI ((vv / 2 ^ 6 % 2 ^ 8) % 10)) (pk_rem (a := vv / 2 ^ 6 % 2 ^ 8) (d := 10) (by omega) (by decide) (by decide)) ?_
      refine lv_iconst (v := 0) hx hb dL_does_106 (by decide) ?_
      refine lv_iconst (v := 0) hx hb dL_does_107 (by decide) ?_
      refine lcXi (S := S4) (ws1 := fun u => (WIN T v B u.1 g ln u.2.1 u.2.2.1 pl f0 f1 u.2.2.2 : va_W)) (wc1 := fun u => WIN T v B u.1 g ln u.2.1 u.2.2.1 pl f0 f1 u.2.2.2) (As := [.ref (v 0), .int (0), .int (nI (vv % 2 ^ 7)), .int (nI (vv / 2 ^ 4 % 2 ^ 2)), .int (nI ((vv / 2 ^ 6 % 2 ^ 8) % 10)), .int (0), .int (0)]) (rest := []) ⟨hx, hb, hml, hown, hts⟩ (c_ex_do0 l hl9 D T aK aV v B O g ln un nx pl f0 f1 f2 ((nI (vv % 2 ^ 7))) ((nI (vv / 2 ^ 4 % 2 ^ 2))) ((nI ((vv / 2 ^ 6 % 2 ^ 8) % 10))) N K C nt hOV hG hnt9 _) (vx_cwSW 7 hts (gC gl_L_call) rfl rfl rfl (by decide +kernel) ⟨Nat.le_of_ble_eq_true rfl, Nat.le_of_ble_eq_true rfl⟩) (fun u => Foc.rfl _ _) (Foc.rfl _ _) hC hNC hK hP hD hS hA rfl hl.1 rfl (Nat.le_of_ble_eq_true rfl) ⟨by show _ ≤ 2900; omega, by show _ ≤ 17400; omega⟩ dL_does_108 (fun r9 u H locs hr hP hD hS => ?_)
      obtain ⟨O5, un5, nx5, f25⟩ := u
      obtain ⟨hG5, hd5⟩ := hr
      replace hG5 : GW O5 un5 nx5 f25 := hG5
      replace hd5 : 0 ≤ r9 ∨ O5 0 = O 0 := hd5
      have hP : va_P D vwCl (WIN T v B O5 g ln un5 nx5 pl f0 f1 f25) H := hP
      have hD : va_D A (WIN T v B O5 g ln un5 nx5 pl f0 f1 f25) := hD
      refine lv_istore (lv' := [(5, .int (r9)), (3, .long (stC (O 0) N K C)), (0, .ref (v 0)), (1, .int (nI w)), (2, .int (nI vv))]) hx hb dL_does_111 hl (by decide) rfl (fun ls hl => ?_)
      refine lv_goto (tgt := 283) hx hb dL_does_113 (by decide) ?_
      refine lv_iload hx hb dL_does_283 (lv_at hl 0 rfl) ?_
      refine lv_if_ge (tgt := 297) hx hb dL_does_285 (by decide) (fun c285 => ?_) (fun c285 => ?_)
      ·
        refine lv_iconst (v := 1) hx hb dL_does_297 (by decide) ?_
        refine lv_goto (tgt := 302) hx hb dL_does_298 (by decide) ?_
        exact hret _ _ _ _ _ _ 1 (O5, un5, nx5, f25) dL_does_302 ⟨rfl, hG5⟩ hP hD hS (by omega) (by omega)
      ·
        have hO5 : O5 0 = O 0 := hd5.resolve_left c285
        have hOI5 : OI (O5 0) N K C nt := by rw [hO5]; exact hOI
        refine lv_aload_n hx hb dL_does_288 rfl (lv_at hl 2 rfl) ?_
        refine lqSl (As := [.ref (v 0)]) (rest := []) ⟨hx, hb, hml, hown, hts⟩ (c_L_state l hl9 D T aK aV v B O5 g ln un5 nx5 pl f0 f1 f25 N K C nt hOI5 _) (va_cwS 1 hts (gC gl_L_state) rfl rfl rfl (by decide +kernel) ⟨Nat.le_of_ble_eq_true rfl, Nat.le_of_ble_eq_true rfl⟩) (Foc.rfl _ _) hC hNC hK hP hD hS hA rfl hl.1 rfl (Nat.le_of_ble_eq_true rfl) ⟨by show _ ≤ 2900; omega, by show _ ≤ 17400; omega⟩ dL_does_289 (fun H locs hP hD hS => ?_)
        have hP : va_P D vwCl (WIN T v B O5 g ln un5 nx5 pl f0 f1 f25) H := hP
        have hD : va_D A (WIN T v B O5 g ln un5 nx5 pl f0 f1 f25) := hD
        refine endL (r := stC (O 0) N K C) (by rw [hO5]) ?_
        refine lv_lload_n hx hb dL_does_292 rfl (lv_at hl 1 rfl) ?_
        refine W.lcmp hx hb dL_does_293 ?_
        refine endI (r := 0) ((lg_cmp_eq _ _).mpr rfl) ?_
        refine lv_if_ne (tgt := 301) hx hb dL_does_294 (by decide) (fun c294 => ?_) (fun c294 => ?_)
        ·
          exact absurd c294 (by decide)
        ·
          refine lv_iconst (v := 1) hx hb dL_does_297 (by decide) ?_
          refine lv_goto (tgt := 302) hx hb dL_does_298 (by decide) ?_
          exact hret _ _ _ _ _ _ 1 (O5, un5, nx5, f25) dL_does_302 ⟨rfl, hG5⟩ hP hD hS (by omega) (by omega)
    ·
      refine lv_tableIn (off := 75) (tgt := 84) hx hb dL_does_9 (by decide) (by decide) (by decide) (by decide) ?_
      refine lv_aload_n hx hb dL_does_84 rfl (lv_at hl 1 rfl) ?_
      refine lv_iconst (v := 0) hx hb dL_does_85 (by decide) ?_
      refine lv_iload_n hx hb dL_does_86 rfl (lv_at hl 3 rfl) ?_
      refine lv_bipush (v := 127) hx hb dL_does_87 (by decide) ?_
      refine lv_iand hx hb dL_does_89 ?_
      refine endI (r := nI (vv % 2 ^ 7)) (nI_and vv 7 hvv (by decide)) ?_
      refine lv_iload_n hx hb dL_does_90 rfl (lv_at hl 3 rfl) ?_
      refine lv_iconst (v := 4) hx hb dL_does_91 (by decide) ?_
      refine lv_ishr hx hb dL_does_92 ?_
      refine endI (r := nI (vv / 2 ^ 4)) (nI_shr (k := 4) hvv (by decide)) ?_
      refine lv_iconst (v := 3) hx hb dL_does_93 (by decide) ?_
      refine lv_iand hx hb dL_does_94 ?_
      refine endI (r := nI (vv / 2 ^ 4 % 2 ^ 2)) (nI_and (vv / 2 ^ 4) 2 (Nat.lt_of_le_of_lt (Nat.div_le_self _ _) hvv) (by decide)) ?_
      refine lv_iload_n hx hb dL_does_95 rfl (lv_at hl 3 rfl) ?_
      refine lv_bipush (v := 6) hx hb dL_does_96 (by decide) ?_
      refine lv_ishr hx hb dL_does_98 ?_
      refine endI (r := nI (vv / 2 ^ 6)) (nI_shr (k := 6) hvv (by decide)) ?_
      refine lv_sipush (v := 255) hx hb dL_does_99 (by decide) ?_
      refine lv_iand hx hb dL_does_102 ?_
      refine endI (r := nI (vv / 2 ^ 6 % 2 ^ 8)) (nI_and (vv / 2 ^ 6) 8 (Nat.lt_of_le_of_lt (Nat.div_le_self _ _) hvv) (by decide)) ?_
      refine lv_bipush (v := 10) hx hb dL_does_103 (by decide) ?_
      refine lv_irem hx hb dL_does_105 (by decide) ?_
      refine endI (r := nI ((vv / 2 ^ 6 % 2 ^ 8) % 10)) (pk_rem (a := vv / 2 ^ 6 % 2 ^ 8) (d := 10) (by omega) (by decide) (by decide)) ?_
      refine lv_iconst (v := 0) hx hb dL_does_106 (by decide) ?_
      refine lv_iconst (v := 0) hx hb dL_does_107 (by decide) ?_
      refine lcXi (S := S4) (ws1 := fun u => (WIN T v B u.1 g ln u.2.1 u.2.2.1 pl f0 f1 u.2.2.2 : va_W)) (wc1 := fun u => WIN T v B u.1 g ln u.2.1 u.2.2.1 pl f0 f1 u.2.2.2) (As := [.ref (v 0), .int (0), .int (nI (vv % 2 ^ 7)), .int (nI (vv / 2 ^ 4 % 2 ^ 2)), .int (nI ((vv / 2 ^ 6 % 2 ^ 8) % 10)), .int (0), .int (0)]) (rest := []) ⟨hx, hb, hml, hown, hts⟩ (c_ex_do0 l hl9 D T aK aV v B O g ln un nx pl f0 f1 f2 ((nI (vv % 2 ^ 7))) ((nI (vv / 2 ^ 4 % 2 ^ 2))) ((nI ((vv / 2 ^ 6 % 2 ^ 8) % 10))) N K C nt hOV hG hnt9 _) (vx_cwSW 7 hts (gC gl_L_call) rfl rfl rfl (by decide +kernel) ⟨Nat.le_of_ble_eq_true rfl, Nat.le_of_ble_eq_true rfl⟩) (fun u => Foc.rfl _ _) (Foc.rfl _ _) hC hNC hK hP hD hS hA rfl hl.1 rfl (Nat.le_of_ble_eq_true rfl) ⟨by show _ ≤ 2900; omega, by show _ ≤ 17400; omega⟩ dL_does_108 (fun r9 u H locs hr hP hD hS => ?_)
      obtain ⟨O5, un5, nx5, f25⟩ := u
      obtain ⟨hG5, hd5⟩ := hr
      replace hG5 : GW O5 un5 nx5 f25 := hG5
      replace hd5 : 0 ≤ r9 ∨ O5 0 = O 0 := hd5
      have hP : va_P D vwCl (WIN T v B O5 g ln un5 nx5 pl f0 f1 f25) H := hP
      have hD : va_D A (WIN T v B O5 g ln un5 nx5 pl f0 f1 f25) := hD
      refine lv_istore (lv' := [(5, .int (r9)), (3, .long (stC (O 0) N K C)), (0, .ref (v 0)), (1, .int (nI w)), (2, .int (nI vv))]) hx hb dL_does_111 hl (by decide) rfl (fun ls hl => ?_)
      refine lv_goto (tgt := 283) hx hb dL_does_113 (by decide) ?_
      refine lv_iload hx hb dL_does_283 (lv_at hl 0 rfl) ?_
      refine lv_if_ge (tgt := 297) hx hb dL_does_285 (by decide) (fun c285 => ?_) (fun c285 => ?_)
      ·
        refine lv_iconst (v := 1) hx hb dL_does_297 (by decide) ?_
        refine lv_goto (tgt := 302) hx hb dL_does_298 (by decide) ?_
        exact hret _ _ _ _ _ _ 1 (O5, un5, nx5, f25) dL_does_302 ⟨rfl, hG5⟩ hP hD hS (by omega) (by omega)
      ·
        have hO5 : O5 0 = O 0 := hd5.resolve_left c285
        have hOI5 : OI (O5 0) N K C nt := by rw [hO5]; exact hOI
        refine lv_aload_n hx hb dL_does_288 rfl (lv_at hl 2 rfl) ?_
        refine lqSl (As := [.ref (v 0)]) (rest := []) ⟨hx, hb, hml, hown, hts⟩ (c_L_state l hl9 D T aK aV v B O5 g ln un5 nx5 pl f0 f1 f25 N K C nt hOI5 _) (va_cwS 1 hts (gC gl_L_state) rfl rfl rfl (by decide +kernel) ⟨Nat.le_of_ble_eq_true rfl, Nat.le_of_ble_eq_true rfl⟩) (Foc.rfl _ _) hC hNC hK hP hD hS hA rfl hl.1 rfl (Nat.le_of_ble_eq_true rfl) ⟨by show _ ≤ 2900; omega, by show _ ≤ 17400; omega⟩ dL_does_289 (fun H locs hP hD hS => ?_)
        have hP : va_P D vwCl (WIN T v B O5 g ln un5 nx5 pl f0 f1 f25) H := hP
        have hD : va_D A (WIN T v B O5 g ln un5 nx5 pl f0 f1 f25) := hD
        refine endL (r := stC (O 0) N K C) (by rw [hO5]) ?_
        refine lv_lload_n hx hb dL_does_292 rfl (lv_at hl 1 rfl) ?_
        refine W.lcmp hx hb dL_does_293 ?_
        refine endI (r := 0) ((lg_cmp_eq _ _).mpr rfl) ?_
        refine lv_if_ne (tgt := 301) hx hb dL_does_294 (by decide) (fun c294 => ?_) (fun c294 => ?_)
        ·
          exact absurd c294 (by decide)
        ·
          refine lv_iconst (v := 1) hx hb dL_does_297 (by decide) ?_
          refine lv_goto (tgt := 302) hx hb dL_does_298 (by decide) ?_
          exact hret _ _ _ _ _ _ 1 (O5, un5, nx5, f25) dL_does_302 ⟨rfl, hG5⟩ hP hD hS (by omega) (by omega)
    ·
      refine lv_tableIn (off := 75) (tgt := 84) hx hb dL_does_9 (by decide) (by decide) (by decide) (by decide) ?_
      refine lv_aload_n hx hb dL_does_84 rfl (lv_at hl 1 rfl) ?_
      refine lv_iconst (v := 0) hx hb dL_does_85 (by decide) ?_
      refine lv_iload_n hx hb dL_does_86 rfl (lv_at hl 3 rfl) ?_
      refine lv_bipush (v := 127) hx hb dL_does_87 (by decide) ?_
      refine lv_iand hx hb dL_does_89 ?_
      refine endI (r := nI (vv % 2 ^ 7)) (nI_and vv 7 hvv (by decide)) ?_
      refine lv_iload_n hx hb dL_does_90 rfl (lv_at hl 3 rfl) ?_
      refine lv_iconst (v := 4) hx hb dL_does_91 (by decide) ?_
      refine lv_ishr hx hb dL_does_92 ?_
      refine endI (r := nI (vv / 2 ^ 4)) (nI_shr (k := 4) hvv (by decide)) ?_
      refine lv_iconst (v := 3) hx hb dL_does_93 (by decide) ?_
      refine lv_iand hx hb dL_does_94 ?_
      refine endI (r := nI (vv / 2 ^ 4 % 2 ^ 2)) (nI_and (vv / 2 ^ 4) 2 (Nat.lt_of_le_of_lt (Nat.div_le_self _ _) hvv) (by decide)) ?_
      refine lv_iload_n hx hb dL_does_95 rfl (lv_at hl 3 rfl) ?_
      refine lv_bipush (v := 6) hx hb dL_does_96 (by decide) ?_
      refine lv_ishr hx hb dL_does_98 ?_
      refine endI (r := nI (vv / 2 ^ 6)) (nI_shr (k := 6) hvv (by decide)) ?_
      refine lv_sipush (v := 255) hx hb dL_does_99 (by decide) ?_
      refine lv_iand hx hb dL_does_102 ?_
      refine endI (r := nI (vv / 2 ^ 6 % 2 ^ 8)) (nI_and (vv / 2 ^ 6) 8 (Nat.lt_of_le_of_lt (Nat.div_le_self _ _) hvv) (by decide)) ?_
      refine lv_bipush (v := 10) hx hb dL_does_103 (by decide) ?_
      refine lv_irem hx hb dL_does_105 (by decide) ?_
      refine endI (r := nI ((vv / 2 ^ 6 % 2 ^ 8) % 10)) (pk_rem (a := vv / 2 ^ 6 % 2 ^ 8) (d := 10) (by omega) (by decide) (by decide)) ?_
      refine lv_iconst (v := 0) hx hb dL_does_106 (by decide) ?_
      refine lv_iconst (v := 0) hx hb dL_does_107 (by decide) ?_
      refine lcXi (S := S4) (ws1 := fun u => (WIN T v B u.1 g ln u.2.1 u.2.2.1 pl f0 f1 u.2.2.2 : va_W)) (wc1 := fun u => WIN T v B u.1 g ln u.2.1 u.2.2.1 pl f0 f1 u.2.2.2) (As := [.ref (v 0), .int (0), .int (nI (vv % 2 ^ 7)), .int (nI (vv / 2 ^ 4 % 2 ^ 2)), .int (nI ((vv / 2 ^ 6 % 2 ^ 8) % 10)), .int (0), .int (0)]) (rest := []) ⟨hx, hb, hml, hown, hts⟩ (c_ex_do0 l hl9 D T aK aV v B O g ln un nx pl f0 f1 f2 ((nI (vv % 2 ^ 7))) ((nI (vv / 2 ^ 4 % 2 ^ 2))) ((nI ((vv / 2 ^ 6 % 2 ^ 8) % 10))) N K C nt hOV hG hnt9 _) (vx_cwSW 7 hts (gC gl_L_call) rfl rfl rfl (by decide +kernel) ⟨Nat.le_of_ble_eq_true rfl, Nat.le_of_ble_eq_true rfl⟩) (fun u => Foc.rfl _ _) (Foc.rfl _ _) hC hNC hK hP hD hS hA rfl hl.1 rfl (Nat.le_of_ble_eq_true rfl) ⟨by show _ ≤ 2900; omega, by show _ ≤ 17400; omega⟩ dL_does_108 (fun r9 u H locs hr hP hD hS => ?_)
      obtain ⟨O5, un5, nx5, f25⟩ := u
      obtain ⟨hG5, hd5⟩ := hr
      replace hG5 : GW O5 un5 nx5 f25 := hG5
      replace hd5 : 0 ≤ r9 ∨ O5 0 = O 0 := hd5
      have hP : va_P D vwCl (WIN T v B O5 g ln un5 nx5 pl f0 f1 f25) H := hP
      have hD : va_D A (WIN T v B O5 g ln un5 nx5 pl f0 f1 f25) := hD
      refine lv_istore (lv' := [(5, .int (r9)), (3, .long (stC (O 0) N K C)), (0, .ref (v 0)), (1, .int (nI w)), (2, .int (nI vv))]) hx hb dL_does_111 hl (by decide) rfl (fun ls hl => ?_)
      refine lv_goto (tgt := 283) hx hb dL_does_113 (by decide) ?_
      refine lv_iload hx hb dL_does_283 (lv_at hl 0 rfl) ?_
      refine lv_if_ge (tgt := 297) hx hb dL_does_285 (by decide) (fun c285 => ?_) (fun c285 => ?_)
      ·
        refine lv_iconst (v := 1) hx hb dL_does_297 (by decide) ?_
        refine lv_goto (tgt := 302) hx hb dL_does_298 (by decide) ?_
        exact hret _ _ _ _ _ _ 1 (O5, un5, nx5, f25) dL_does_302 ⟨rfl, hG5⟩ hP hD hS (by omega) (by omega)
      ·
        have hO5 : O5 0 = O 0 := hd5.resolve_left c285
        have hOI5 : OI (O5 0) N K C nt := by rw [hO5]; exact hOI
        refine lv_aload_n hx hb dL_does_288 rfl (lv_at hl 2 rfl) ?_
        refine lqSl (As := [.ref (v 0)]) (rest := []) ⟨hx, hb, hml, hown, hts⟩ (c_L_state l hl9 D T aK aV v B O5 g ln un5 nx5 pl f0 f1 f25 N K C nt hOI5 _) (va_cwS 1 hts (gC gl_L_state) rfl rfl rfl (by decide +kernel) ⟨Nat.le_of_ble_eq_true rfl, Nat.le_of_ble_eq_true rfl⟩) (Foc.rfl _ _) hC hNC hK hP hD hS hA rfl hl.1 rfl (Nat.le_of_ble_eq_true rfl) ⟨by show _ ≤ 2900; omega, by show _ ≤ 17400; omega⟩ dL_does_289 (fun H locs hP hD hS => ?_)
        have hP : va_P D vwCl (WIN T v B O5 g ln un5 nx5 pl f0 f1 f25) H := hP
        have hD : va_D A (WIN T v B O5 g ln un5 nx5 pl f0 f1 f25) := hD
        refine endL (r := stC (O 0) N K C) (by rw [hO5]) ?_
        refine lv_lload_n hx hb dL_does_292 rfl (lv_at hl 1 rfl) ?_
        refine W.lcmp hx hb dL_does_293 ?_
        refine endI (r := 0) ((lg_cmp_eq _ _).mpr rfl) ?_
        refine lv_if_ne (tgt := 301) hx hb dL_does_294 (by decide) (fun c294 => ?_) (fun c294 => ?_)
        ·
          exact absurd c294 (by decide)
        ·
          refine lv_iconst (v := 1) hx hb dL_does_297 (by decide) ?_
          refine lv_goto (tgt := 302) hx hb dL_does_298 (by decide) ?_
          exact hret _ _ _ _ _ _ 1 (O5, un5, nx5, f25) dL_does_302 ⟨rfl, hG5⟩ hP hD hS (by omega) (by omega)
    ·
      refine lv_tableIn (off := 75) (tgt := 84) hx hb dL_does_9 (by decide) (by decide) (by decide) (by decide) ?_
      refine lv_aload_n hx hb dL_does_84 rfl (lv_at hl 1 rfl) ?_
      refine lv_iconst (v := 0) hx hb dL_does_85 (by decide) ?_
      refine lv_iload_n hx hb dL_does_86 rfl (lv_at hl 3 rfl) ?_
      refine lv_bipush (v := 127) hx hb dL_does_87 (by decide) ?_
      refine lv_iand hx hb dL_does_89 ?_
      refine endI (r := nI (vv % 2 ^ 7)) (nI_and vv 7 hvv (by decide)) ?_
      refine lv_iload_n hx hb dL_does_90 rfl (lv_at hl 3 rfl) ?_
      refine lv_iconst (v := 4) hx hb dL_does_91 (by decide) ?_
      refine lv_ishr hx hb dL_does_92 ?_
      refine endI (r := nI (vv / 2 ^ 4)) (nI_shr (k := 4) hvv (by decide)) ?_
      refine lv_iconst (v := 3) hx hb dL_does_93 (by decide) ?_
      refine lv_iand hx hb dL_does_94 ?_
      refine endI (r := nI (vv / 2 ^ 4 % 2 ^ 2)) (nI_and (vv / 2 ^ 4) 2 (Nat.lt_of_le_of_lt (Nat.div_le_self _ _) hvv) (by decide)) ?_
      refine lv_iload_n hx hb dL_does_95 rfl (lv_at hl 3 rfl) ?_
      refine lv_bipush (v := 6) hx hb dL_does_96 (by decide) ?_
      refine lv_ishr hx hb dL_does_98 ?_
      refine endI (r := nI (vv / 2 ^ 6)) (nI_shr (k := 6) hvv (by decide)) ?_
      refine lv_sipush (v := 255) hx hb dL_does_99 (by decide) ?_
      refine lv_iand hx hb dL_does_102 ?_
      refine endI (r := nI (vv / 2 ^ 6 % 2 ^ 8)) (nI_and (vv / 2 ^ 6) 8 (Nat.lt_of_le_of_lt (Nat.div_le_self _ _) hvv) (by decide)) ?_
      refine lv_bipush (v := 10) hx hb dL_does_103 (by decide) ?_
      refine lv_irem hx hb dL_does_105 (by decide) ?_
      refine endI (r := nI ((vv / 2 ^ 6 % 2 ^ 8) % 10)) (pk_rem (a := vv / 2 ^ 6 % 2 ^ 8) (d := 10) (by omega) (by decide) (by decide)) ?_
      refine lv_iconst (v := 0) hx hb dL_does_106 (by decide) ?_
      refine lv_iconst (v := 0) hx hb dL_does_107 (by decide) ?_
      refine lcXi (S := S4) (ws1 := fun u => (WIN T v B u.1 g ln u.2.1 u.2.2.1 pl f0 f1 u.2.2.2 : va_W)) (wc1 := fun u => WIN T v B u.1 g ln u.2.1 u.2.2.1 pl f0 f1 u.2.2.2) (As := [.ref (v 0), .int (0), .int (nI (vv % 2 ^ 7)), .int (nI (vv / 2 ^ 4 % 2 ^ 2)), .int (nI ((vv / 2 ^ 6 % 2 ^ 8) % 10)), .int (0), .int (0)]) (rest := []) ⟨hx, hb, hml, hown, hts⟩ (c_ex_do0 l hl9 D T aK aV v B O g ln un nx pl f0 f1 f2 ((nI (vv % 2 ^ 7))) ((nI (vv / 2 ^ 4 % 2 ^ 2))) ((nI ((vv / 2 ^ 6 % 2 ^ 8) % 10))) N K C nt hOV hG hnt9 _) (vx_cwSW 7 hts (gC gl_L_call) rfl rfl rfl (by decide +kernel) ⟨Nat.le_of_ble_eq_true rfl, Nat.le_of_ble_eq_true rfl⟩) (fun u => Foc.rfl _ _) (Foc.rfl _ _) hC hNC hK hP hD hS hA rfl hl.1 rfl (Nat.le_of_ble_eq_true rfl) ⟨by show _ ≤ 2900; omega, by show _ ≤ 17400; omega⟩ dL_does_108 (fun r9 u H locs hr hP hD hS => ?_)
      obtain ⟨O5, un5, nx5, f25⟩ := u
      obtain ⟨hG5, hd5⟩ := hr
      replace hG5 : GW O5 un5 nx5 f25 := hG5
      replace hd5 : 0 ≤ r9 ∨ O5 0 = O 0 := hd5
      have hP : va_P D vwCl (WIN T v B O5 g ln un5 nx5 pl f0 f1 f25) H := hP
      have hD : va_D A (WIN T v B O5 g ln un5 nx5 pl f0 f1 f25) := hD
      refine lv_istore (lv' := [(5, .int (r9)), (3, .long (stC (O 0) N K C)), (0, .ref (v 0)), (1, .int (nI w)), (2, .int (nI vv))]) hx hb dL_does_111 hl (by decide) rfl (fun ls hl => ?_)
      refine lv_goto (tgt := 283) hx hb dL_does_113 (by decide) ?_
      refine lv_iload hx hb dL_does_283 (lv_at hl 0 rfl) ?_
      refine lv_if_ge (tgt := 297) hx hb dL_does_285 (by decide) (fun c285 => ?_) (fun c285 => ?_)
      ·
        refine lv_iconst (v := 1) hx hb dL_does_297 (by decide) ?_
        refine lv_goto (tgt := 302) hx hb dL_does_298 (by decide) ?_
        exact hret _ _ _ _ _ _ 1 (O5, un5, nx5, f25) dL_does_302 ⟨rfl, hG5⟩ hP hD hS (by omega) (by omega)
      ·
        have hO5 : O5 0 = O 0 := hd5.resolve_left c285
        have hOI5 : OI (O5 0) N K C nt := by rw [hO5]; exact hOI
        refine lv_aload_n hx hb dL_does_288 rfl (lv_at hl 2 rfl) ?_
        refine lqSl (As := [.ref (v 0)]) (rest := []) ⟨hx, hb, hml, hown, hts⟩ (c_L_state l hl9 D T aK aV v B O5 g ln un5 nx5 pl f0 f1 f25 N K C nt hOI5 _) (va_cwS 1 hts (gC gl_L_state) rfl rfl rfl (by decide +kernel) ⟨Nat.le_of_ble_eq_true rfl, Nat.le_of_ble_eq_true rfl⟩) (Foc.rfl _ _) hC hNC hK hP hD hS hA rfl hl.1 rfl (Nat.le_of_ble_eq_true rfl) ⟨by show _ ≤ 2900; omega, by show _ ≤ 17400; omega⟩ dL_does_289 (fun H locs hP hD hS => ?_)
        have hP : va_P D vwCl (WIN T v B O5 g ln un5 nx5 pl f0 f1 f25) H := hP
        have hD : va_D A (WIN T v B O5 g ln un5 nx5 pl f0 f1 f25) := hD
        refine endL (r := stC (O 0) N K C) (by rw [hO5]) ?_
        refine lv_lload_n hx hb dL_does_292 rfl (lv_at hl 1 rfl) ?_
        refine W.lcmp hx hb dL_does_293 ?_
        refine endI (r := 0) ((lg_cmp_eq _ _).mpr rfl) ?_
        refine lv_if_ne (tgt := 301) hx hb dL_does_294 (by decide) (fun c294 => ?_) (fun c294 => ?_)
        ·
          exact absurd c294 (by decide)
        ·
          refine lv_iconst (v := 1) hx hb dL_does_297 (by decide) ?_
          refine lv_goto (tgt := 302) hx hb dL_does_298 (by decide) ?_
          exact hret _ _ _ _ _ _ 1 (O5, un5, nx5, f25) dL_does_302 ⟨rfl, hG5⟩ hP hD hS (by omega) (by omega)
    ·
      refine lv_tableIn (off := 107) (tgt := 116) hx hb dL_does_9 (by decide) (by decide) (by decide) (by decide) ?_
      refine lv_aload_n hx hb dL_does_116 rfl (lv_at hl 1 rfl) ?_
      refine lv_iconst (v := 1) hx hb dL_does_117 (by decide) ?_
      refine lv_iload_n hx hb dL_does_118 rfl (lv_at hl 3 rfl) ?_
      refine lv_bipush (v := 7) hx hb dL_does_119 (by decide) ?_
      refine lv_iand hx hb dL_does_121 ?_
      refine endI (r := nI (vv % 2 ^ 3)) (nI_and vv 3 hvv (by decide)) ?_
      refine lcSi (S := S4) (ws1 := fun u => (WIN T v B u.1 g ln u.2.1 u.2.2.1 pl f0 f1 u.2.2.2 : va_W)) (wc1 := fun u => WIN T v B u.1 g ln u.2.1 u.2.2.1 pl f0 f1 u.2.2.2) (As := [.ref (v 0), .int (1), .int (nI (vv % 2 ^ 3))]) (rest := []) ⟨hx, hb, hml, hown, hts⟩ (c_ex_do1 l hl9 D T aK aV v B O g ln un nx pl f0 f1 f2 ((nI (vv % 2 ^ 3))) N K C nt hOV hG hnt9 _) (va_cwS 3 hts (gC gl_L_call__) rfl rfl rfl (by decide +kernel) ⟨Nat.le_of_ble_eq_true rfl, Nat.le_of_ble_eq_true rfl⟩) (fun u => Foc.rfl _ _) (Foc.rfl _ _) hC hNC hK hP hD hS hA rfl hl.1 rfl (Nat.le_of_ble_eq_true rfl) ⟨by show _ ≤ 2900; omega, by show _ ≤ 17400; omega⟩ dL_does_122 (fun r9 u H locs hr hP hD hS => ?_)
      obtain ⟨O5, un5, nx5, f25⟩ := u
      obtain ⟨hG5, hd5⟩ := hr
      replace hG5 : GW O5 un5 nx5 f25 := hG5
      replace hd5 : 0 ≤ r9 ∨ O5 0 = O 0 := hd5
      have hP : va_P D vwCl (WIN T v B O5 g ln un5 nx5 pl f0 f1 f25) H := hP
      have hD : va_D A (WIN T v B O5 g ln un5 nx5 pl f0 f1 f25) := hD
      refine lv_istore (lv' := [(5, .int (r9)), (3, .long (stC (O 0) N K C)), (0, .ref (v 0)), (1, .int (nI w)), (2, .int (nI vv))]) hx hb dL_does_125 hl (by decide) rfl (fun ls hl => ?_)
      refine lv_goto (tgt := 283) hx hb dL_does_127 (by decide) ?_
      refine lv_iload hx hb dL_does_283 (lv_at hl 0 rfl) ?_
      refine lv_if_ge (tgt := 297) hx hb dL_does_285 (by decide) (fun c285 => ?_) (fun c285 => ?_)
      ·
        refine lv_iconst (v := 1) hx hb dL_does_297 (by decide) ?_
        refine lv_goto (tgt := 302) hx hb dL_does_298 (by decide) ?_
        exact hret _ _ _ _ _ _ 1 (O5, un5, nx5, f25) dL_does_302 ⟨rfl, hG5⟩ hP hD hS (by omega) (by omega)
      ·
        have hO5 : O5 0 = O 0 := hd5.resolve_left c285
        have hOI5 : OI (O5 0) N K C nt := by rw [hO5]; exact hOI
        refine lv_aload_n hx hb dL_does_288 rfl (lv_at hl 2 rfl) ?_
        refine lqSl (As := [.ref (v 0)]) (rest := []) ⟨hx, hb, hml, hown, hts⟩ (c_L_state l hl9 D T aK aV v B O5 g ln un5 nx5 pl f0 f1 f25 N K C nt hOI5 _) (va_cwS 1 hts (gC gl_L_state) rfl rfl rfl (by decide +kernel) ⟨Nat.le_of_ble_eq_true rfl, Nat.le_of_ble_eq_true rfl⟩) (Foc.rfl _ _) hC hNC hK hP hD hS hA rfl hl.1 rfl (Nat.le_of_ble_eq_true rfl) ⟨by show _ ≤ 2900; omega, by show _ ≤ 17400; omega⟩ dL_does_289 (fun H locs hP hD hS => ?_)
        have hP : va_P D vwCl (WIN T v B O5 g ln un5 nx5 pl f0 f1 f25) H := hP
        have hD : va_D A (WIN T v B O5 g ln un5 nx5 pl f0 f1 f25) := hD
        refine endL (r := stC (O 0) N K C) (by rw [hO5]) ?_
        refine lv_lload_n hx hb dL_does_292 rfl (lv_at hl 1 rfl) ?_
        refine W.lcmp hx hb dL_does_293 ?_
        refine endI (r := 0) ((lg_cmp_eq _ _).mpr rfl) ?_
        refine lv_if_ne (tgt := 301) hx hb dL_does_294 (by decide) (fun c294 => ?_) (fun c294 => ?_)
        ·
          exact absurd c294 (by decide)
        ·
          refine lv_iconst (v := 1) hx hb dL_does_297 (by decide) ?_
          refine lv_goto (tgt := 302) hx hb dL_does_298 (by decide) ?_
          exact hret _ _ _ _ _ _ 1 (O5, un5, nx5, f25) dL_does_302 ⟨rfl, hG5⟩ hP hD hS (by omega) (by omega)
    ·
      refine lv_tableIn (off := 121) (tgt := 130) hx hb dL_does_9 (by decide) (by decide) (by decide) (by decide) ?_
      refine lv_aload_n hx hb dL_does_130 rfl (lv_at hl 1 rfl) ?_
      refine lv_iconst (v := 2) hx hb dL_does_131 (by decide) ?_
      refine lv_iload_n hx hb dL_does_132 rfl (lv_at hl 3 rfl) ?_
      refine lv_sipush (v := 255) hx hb dL_does_133 (by decide) ?_
      refine lv_iand hx hb dL_does_136 ?_
      refine endI (r := nI (vv % 2 ^ 8)) (nI_and vv 8 hvv (by decide)) ?_
      refine lv_bipush (v := 10) hx hb dL_does_137 (by decide) ?_
      refine lv_irem hx hb dL_does_139 (by decide) ?_
      refine endI (r := nI ((vv % 2 ^ 8) % 10)) (pk_rem (a := vv % 2 ^ 8) (d := 10) (by omega) (by decide) (by decide)) ?_
      refine lv_iload_n hx hb dL_does_140 rfl (lv_at hl 3 rfl) ?_
      refine lv_iconst (v := 2) hx hb dL_does_141 (by decide) ?_
      refine lv_ishr hx hb dL_does_142 ?_
      refine endI (r := nI (vv / 2 ^ 2)) (nI_shr (k := 2) hvv (by decide)) ?_
      refine lv_bipush (v := 127) hx hb dL_does_143 (by decide) ?_
      refine lv_iand hx hb dL_does_145 ?_
      refine endI (r := nI (vv / 2 ^ 2 % 2 ^ 7)) (nI_and (vv / 2 ^ 2) 7 (Nat.lt_of_le_of_lt (Nat.div_le_self _ _) hvv) (by decide)) ?_
      refine lcSi (S := S4) (ws1 := fun u => (WIN T v B u.1 g ln u.2.1 u.2.2.1 pl f0 f1 u.2.2.2 : va_W)) (wc1 := fun u => WIN T v B u.1 g ln u.2.1 u.2.2.1 pl f0 f1 u.2.2.2) (As := [.ref (v 0), .int (2), .int (nI ((vv % 2 ^ 8) % 10)), .int (nI (vv / 2 ^ 2 % 2 ^ 7))]) (rest := []) ⟨hx, hb, hml, hown, hts⟩ (c_ex_do2 l hl9 D T aK aV v B O g ln un nx pl f0 f1 f2 ((nI ((vv % 2 ^ 8) % 10))) ((nI (vv / 2 ^ 2 % 2 ^ 7))) N K C nt hOV hG hnt9 _) (va_cwS 4 hts (gC gl_L_call_) rfl rfl rfl (by decide +kernel) ⟨Nat.le_of_ble_eq_true rfl, Nat.le_of_ble_eq_true rfl⟩) (fun u => Foc.rfl _ _) (Foc.rfl _ _) hC hNC hK hP hD hS hA rfl hl.1 rfl (Nat.le_of_ble_eq_true rfl) ⟨by show _ ≤ 2900; omega, by show _ ≤ 17400; omega⟩ dL_does_146 (fun r9 u H locs hr hP hD hS => ?_)
      obtain ⟨O5, un5, nx5, f25⟩ := u
      obtain ⟨hG5, hd5⟩ := hr
      replace hG5 : GW O5 un5 nx5 f25 := hG5
      replace hd5 : 0 ≤ r9 ∨ O5 0 = O 0 := hd5
      have hP : va_P D vwCl (WIN T v B O5 g ln un5 nx5 pl f0 f1 f25) H := hP
      have hD : va_D A (WIN T v B O5 g ln un5 nx5 pl f0 f1 f25) := hD
      refine lv_istore (lv' := [(5, .int (r9)), (3, .long (stC (O 0) N K C)), (0, .ref (v 0)), (1, .int (nI w)), (2, .int (nI vv))]) hx hb dL_does_149 hl (by decide) rfl (fun ls hl => ?_)
      refine lv_goto (tgt := 283) hx hb dL_does_151 (by decide) ?_
      refine lv_iload hx hb dL_does_283 (lv_at hl 0 rfl) ?_
      refine lv_if_ge (tgt := 297) hx hb dL_does_285 (by decide) (fun c285 => ?_) (fun c285 => ?_)
      ·
        refine lv_iconst (v := 1) hx hb dL_does_297 (by decide) ?_
        refine lv_goto (tgt := 302) hx hb dL_does_298 (by decide) ?_
        exact hret _ _ _ _ _ _ 1 (O5, un5, nx5, f25) dL_does_302 ⟨rfl, hG5⟩ hP hD hS (by omega) (by omega)
      ·
        have hO5 : O5 0 = O 0 := hd5.resolve_left c285
        have hOI5 : OI (O5 0) N K C nt := by rw [hO5]; exact hOI
        refine lv_aload_n hx hb dL_does_288 rfl (lv_at hl 2 rfl) ?_
        refine lqSl (As := [.ref (v 0)]) (rest := []) ⟨hx, hb, hml, hown, hts⟩ (c_L_state l hl9 D T aK aV v B O5 g ln un5 nx5 pl f0 f1 f25 N K C nt hOI5 _) (va_cwS 1 hts (gC gl_L_state) rfl rfl rfl (by decide +kernel) ⟨Nat.le_of_ble_eq_true rfl, Nat.le_of_ble_eq_true rfl⟩) (Foc.rfl _ _) hC hNC hK hP hD hS hA rfl hl.1 rfl (Nat.le_of_ble_eq_true rfl) ⟨by show _ ≤ 2900; omega, by show _ ≤ 17400; omega⟩ dL_does_289 (fun H locs hP hD hS => ?_)
        have hP : va_P D vwCl (WIN T v B O5 g ln un5 nx5 pl f0 f1 f25) H := hP
        have hD : va_D A (WIN T v B O5 g ln un5 nx5 pl f0 f1 f25) := hD
        refine endL (r := stC (O 0) N K C) (by rw [hO5]) ?_
        refine lv_lload_n hx hb dL_does_292 rfl (lv_at hl 1 rfl) ?_
        refine W.lcmp hx hb dL_does_293 ?_
        refine endI (r := 0) ((lg_cmp_eq _ _).mpr rfl) ?_
        refine lv_if_ne (tgt := 301) hx hb dL_does_294 (by decide) (fun c294 => ?_) (fun c294 => ?_)
        ·
          exact absurd c294 (by decide)
        ·
          refine lv_iconst (v := 1) hx hb dL_does_297 (by decide) ?_
          refine lv_goto (tgt := 302) hx hb dL_does_298 (by decide) ?_
          exact hret _ _ _ _ _ _ 1 (O5, un5, nx5, f25) dL_does_302 ⟨rfl, hG5⟩ hP hD hS (by omega) (by omega)
    ·
      refine lv_tableIn (off := 145) (tgt := 154) hx hb dL_does_9 (by decide) (by decide) (by decide) (by decide) ?_
      refine lv_aload_n hx hb dL_does_154 rfl (lv_at hl 1 rfl) ?_
      refine lv_iconst (v := 3) hx hb dL_does_155 (by decide) ?_
      refine lv_iload_n hx hb dL_does_156 rfl (lv_at hl 3 rfl) ?_
      refine lv_iconst (v := 3) hx hb dL_does_157 (by decide) ?_
      refine lv_iand hx hb dL_does_158 ?_
      refine endI (r := nI (vv % 2 ^ 2)) (nI_and vv 2 hvv (by decide)) ?_
      refine lv_iload_n hx hb dL_does_159 rfl (lv_at hl 3 rfl) ?_
      refine lv_iconst (v := 2) hx hb dL_does_160 (by decide) ?_
      refine lv_ishr hx hb dL_does_161 ?_
      refine endI (r := nI (vv / 2 ^ 2)) (nI_shr (k := 2) hvv (by decide)) ?_
      refine lv_bipush (v := 127) hx hb dL_does_162 (by decide) ?_
      refine lv_iand hx hb dL_does_164 ?_
      refine endI (r := nI (vv / 2 ^ 2 % 2 ^ 7)) (nI_and (vv / 2 ^ 2) 7 (Nat.lt_of_le_of_lt (Nat.div_le_self _ _) hvv) (by decide)) ?_
      refine lcSi (S := S4) (ws1 := fun u => (WIN T v B u.1 g ln u.2.1 u.2.2.1 pl f0 f1 u.2.2.2 : va_W)) (wc1 := fun u => WIN T v B u.1 g ln u.2.1 u.2.2.1 pl f0 f1 u.2.2.2) (As := [.ref (v 0), .int (3), .int (nI (vv % 2 ^ 2)), .int (nI (vv / 2 ^ 2 % 2 ^ 7))]) (rest := []) ⟨hx, hb, hml, hown, hts⟩ (c_ex_do3 l hl9 D T aK aV v B O g ln un nx pl f0 f1 f2 ((nI (vv % 2 ^ 2))) ((nI (vv / 2 ^ 2 % 2 ^ 7))) N K C nt hOV hG hnt9 _) (va_cwS 4 hts (gC gl_L_call_) rfl rfl rfl (by decide +kernel) ⟨Nat.le_of_ble_eq_true rfl, Nat.le_of_ble_eq_true rfl⟩) (fun u => Foc.rfl _ _) (Foc.rfl _ _) hC hNC hK hP hD hS hA rfl hl.1 rfl (Nat.le_of_ble_eq_true rfl) ⟨by show _ ≤ 2900; omega, by show _ ≤ 17400; omega⟩ dL_does_165 (fun r9 u H locs hr hP hD hS => ?_)
      obtain ⟨O5, un5, nx5, f25⟩ := u
      obtain ⟨hG5, hd5⟩ := hr
      replace hG5 : GW O5 un5 nx5 f25 := hG5
      replace hd5 : 0 ≤ r9 ∨ O5 0 = O 0 := hd5
      have hP : va_P D vwCl (WIN T v B O5 g ln un5 nx5 pl f0 f1 f25) H := hP
      have hD : va_D A (WIN T v B O5 g ln un5 nx5 pl f0 f1 f25) := hD
      refine lv_istore (lv' := [(5, .int (r9)), (3, .long (stC (O 0) N K C)), (0, .ref (v 0)), (1, .int (nI w)), (2, .int (nI vv))]) hx hb dL_does_168 hl (by decide) rfl (fun ls hl => ?_)
      refine lv_goto (tgt := 283) hx hb dL_does_170 (by decide) ?_
      refine lv_iload hx hb dL_does_283 (lv_at hl 0 rfl) ?_
      refine lv_if_ge (tgt := 297) hx hb dL_does_285 (by decide) (fun c285 => ?_) (fun c285 => ?_)
      ·
        refine lv_iconst (v := 1) hx hb dL_does_297 (by decide) ?_
        refine lv_goto (tgt := 302) hx hb dL_does_298 (by decide) ?_
        exact hret _ _ _ _ _ _ 1 (O5, un5, nx5, f25) dL_does_302 ⟨rfl, hG5⟩ hP hD hS (by omega) (by omega)
      ·
        have hO5 : O5 0 = O 0 := hd5.resolve_left c285
        have hOI5 : OI (O5 0) N K C nt := by rw [hO5]; exact hOI
        refine lv_aload_n hx hb dL_does_288 rfl (lv_at hl 2 rfl) ?_
        refine lqSl (As := [.ref (v 0)]) (rest := []) ⟨hx, hb, hml, hown, hts⟩ (c_L_state l hl9 D T aK aV v B O5 g ln un5 nx5 pl f0 f1 f25 N K C nt hOI5 _) (va_cwS 1 hts (gC gl_L_state) rfl rfl rfl (by decide +kernel) ⟨Nat.le_of_ble_eq_true rfl, Nat.le_of_ble_eq_true rfl⟩) (Foc.rfl _ _) hC hNC hK hP hD hS hA rfl hl.1 rfl (Nat.le_of_ble_eq_true rfl) ⟨by show _ ≤ 2900; omega, by show _ ≤ 17400; omega⟩ dL_does_289 (fun H locs hP hD hS => ?_)
        have hP : va_P D vwCl (WIN T v B O5 g ln un5 nx5 pl f0 f1 f25) H := hP
        have hD : va_D A (WIN T v B O5 g ln un5 nx5 pl f0 f1 f25) := hD
        refine endL (r := stC (O 0) N K C) (by rw [hO5]) ?_
        refine lv_lload_n hx hb dL_does_292 rfl (lv_at hl 1 rfl) ?_
        refine W.lcmp hx hb dL_does_293 ?_
        refine endI (r := 0) ((lg_cmp_eq _ _).mpr rfl) ?_
        refine lv_if_ne (tgt := 301) hx hb dL_does_294 (by decide) (fun c294 => ?_) (fun c294 => ?_)
        ·
          exact absurd c294 (by decide)
        ·
          refine lv_iconst (v := 1) hx hb dL_does_297 (by decide) ?_
          refine lv_goto (tgt := 302) hx hb dL_does_298 (by decide) ?_
          exact hret _ _ _ _ _ _ 1 (O5, un5, nx5, f25) dL_does_302 ⟨rfl, hG5⟩ hP hD hS (by omega) (by omega)
    ·
      refine lv_tableIn (off := 164) (tgt := 173) hx hb dL_does_9 (by decide) (by decide) (by decide) (by decide) ?_
      refine lv_aload_n hx hb dL_does_173 rfl (lv_at hl 1 rfl) ?_
      refine lv_iconst (v := 4) hx hb dL_does_174 (by decide) ?_
      refine lv_iload_n hx hb dL_does_175 rfl (lv_at hl 3 rfl) ?_
      refine lv_bipush (v := 7) hx hb dL_does_176 (by decide) ?_
      refine lv_iand hx hb dL_does_178 ?_
      refine endI (r := nI (vv % 2 ^ 3)) (nI_and vv 3 hvv (by decide)) ?_
      refine lv_iload_n hx hb dL_does_179 rfl (lv_at hl 3 rfl) ?_
      refine lv_iconst (v := 3) hx hb dL_does_180 (by decide) ?_
      refine lv_ishr hx hb dL_does_181 ?_
      refine endI (r := nI (vv / 2 ^ 3)) (nI_shr (k := 3) hvv (by decide)) ?_
      refine lv_sipush (v := 255) hx hb dL_does_182 (by decide) ?_
      refine lv_iand hx hb dL_does_185 ?_
      refine endI (r := nI (vv / 2 ^ 3 % 2 ^ 8)) (nI_and (vv / 2 ^ 3) 8 (Nat.lt_of_le_of_lt (Nat.div_le_self _ _) hvv) (by decide)) ?_
      refine lv_bipush (v := 11) hx hb dL_does_186 (by decide) ?_
      refine lv_irem hx hb dL_does_188 (by decide) ?_
      refine endI (r := nI ((vv / 2 ^ 3 % 2 ^ 8) % 11)) (pk_rem (a := vv / 2 ^ 3 % 2 ^ 8) (d := 11) (by omega) (by decide) (by decide)) ?_
      refine lcSi (S := S4) (ws1 := fun u => (WIN T v B u.1 g ln u.2.1 u.2.2.1 pl f0 f1 u.2.2.2 : va_W)) (wc1 := fun u => WIN T v B u.1 g ln u.2.1 u.2.2.1 pl f0 f1 u.2.2.2) (As := [.ref (v 0), .int (4), .int (nI (vv % 2 ^ 3)), .int (nI ((vv / 2 ^ 3 % 2 ^ 8) % 11))]) (rest := []) ⟨hx, hb, hml, hown, hts⟩ (c_ex_do4 l hl9 D T aK aV v B O g ln un nx pl f0 f1 f2 ((nI (vv % 2 ^ 3))) ((nI ((vv / 2 ^ 3 % 2 ^ 8) % 11))) N K C nt hOV hG hnt9 _) (va_cwS 4 hts (gC gl_L_call_) rfl rfl rfl (by decide +kernel) ⟨Nat.le_of_ble_eq_true rfl, Nat.le_of_ble_eq_true rfl⟩) (fun u => Foc.rfl _ _) (Foc.rfl _ _) hC hNC hK hP hD hS hA rfl hl.1 rfl (Nat.le_of_ble_eq_true rfl) ⟨by show _ ≤ 2900; omega, by show _ ≤ 17400; omega⟩ dL_does_189 (fun r9 u H locs hr hP hD hS => ?_)
      obtain ⟨O5, un5, nx5, f25⟩ := u
      obtain ⟨hG5, hd5⟩ := hr
      replace hG5 : GW O5 un5 nx5 f25 := hG5
      replace hd5 : 0 ≤ r9 ∨ O5 0 = O 0 := hd5
      have hP : va_P D vwCl (WIN T v B O5 g ln un5 nx5 pl f0 f1 f25) H := hP
      have hD : va_D A (WIN T v B O5 g ln un5 nx5 pl f0 f1 f25) := hD
      refine lv_istore (lv' := [(5, .int (r9)), (3, .long (stC (O 0) N K C)), (0, .ref (v 0)), (1, .int (nI w)), (2, .int (nI vv))]) hx hb dL_does_192 hl (by decide) rfl (fun ls hl => ?_)
      refine lv_goto (tgt := 283) hx hb dL_does_194 (by decide) ?_
      refine lv_iload hx hb dL_does_283 (lv_at hl 0 rfl) ?_
      refine lv_if_ge (tgt := 297) hx hb dL_does_285 (by decide) (fun c285 => ?_) (fun c285 => ?_)
      ·
        refine lv_iconst (v := 1) hx hb dL_does_297 (by decide) ?_
        refine lv_goto (tgt := 302) hx hb dL_does_298 (by decide) ?_
        exact hret _ _ _ _ _ _ 1 (O5, un5, nx5, f25) dL_does_302 ⟨rfl, hG5⟩ hP hD hS (by omega) (by omega)
      ·
        have hO5 : O5 0 = O 0 := hd5.resolve_left c285
        have hOI5 : OI (O5 0) N K C nt := by rw [hO5]; exact hOI
        refine lv_aload_n hx hb dL_does_288 rfl (lv_at hl 2 rfl) ?_
        refine lqSl (As := [.ref (v 0)]) (rest := []) ⟨hx, hb, hml, hown, hts⟩ (c_L_state l hl9 D T aK aV v B O5 g ln un5 nx5 pl f0 f1 f25 N K C nt hOI5 _) (va_cwS 1 hts (gC gl_L_state) rfl rfl rfl (by decide +kernel) ⟨Nat.le_of_ble_eq_true rfl, Nat.le_of_ble_eq_true rfl⟩) (Foc.rfl _ _) hC hNC hK hP hD hS hA rfl hl.1 rfl (Nat.le_of_ble_eq_true rfl) ⟨by show _ ≤ 2900; omega, by show _ ≤ 17400; omega⟩ dL_does_289 (fun H locs hP hD hS => ?_)
        have hP : va_P D vwCl (WIN T v B O5 g ln un5 nx5 pl f0 f1 f25) H := hP
        have hD : va_D A (WIN T v B O5 g ln un5 nx5 pl f0 f1 f25) := hD
        refine endL (r := stC (O 0) N K C) (by rw [hO5]) ?_
        refine lv_lload_n hx hb dL_does_292 rfl (lv_at hl 1 rfl) ?_
        refine W.lcmp hx hb dL_does_293 ?_
        refine endI (r := 0) ((lg_cmp_eq _ _).mpr rfl) ?_
        refine lv_if_ne (tgt := 301) hx hb dL_does_294 (by decide) (fun c294 => ?_) (fun c294 => ?_)
        ·
          exact absurd c294 (by decide)
        ·
          refine lv_iconst (v := 1) hx hb dL_does_297 (by decide) ?_
          refine lv_goto (tgt := 302) hx hb dL_does_298 (by decide) ?_
          exact hret _ _ _ _ _ _ 1 (O5, un5, nx5, f25) dL_does_302 ⟨rfl, hG5⟩ hP hD hS (by omega) (by omega)
    ·
      refine lv_tableIn (off := 188) (tgt := 197) hx hb dL_does_9 (by decide) (by decide) (by decide) (by decide) ?_
      refine lv_aload_n hx hb dL_does_197 rfl (lv_at hl 1 rfl) ?_
      refine lv_iconst (v := 5) hx hb dL_does_198 (by decide) ?_
      refine lv_iload_n hx hb dL_does_199 rfl (lv_at hl 3 rfl) ?_
      refine lv_sipush (v := 255) hx hb dL_does_200 (by decide) ?_
      refine lv_iand hx hb dL_does_203 ?_
      refine endI (r := nI (vv % 2 ^ 8)) (nI_and vv 8 hvv (by decide)) ?_
      refine lv_iconst (v := 3) hx hb dL_does_204 (by decide) ?_
      obtain ⟨v3, hv3⟩ : ∃ q, q = vv % 2 ^ 8 % 3 := ⟨_, rfl⟩
      have hv33 : v3 < 3 := by rw [hv3]; exact Nat.mod_lt _ (by decide)
      obtain rfl | rfl | rfl : v3 = 0 ∨ v3 = 1 ∨ v3 = 2 := by omega
      ·
        refine lv_irem hx hb dL_does_205 (by decide) ?_
        refine endI (r := 0) ((pk_rem (a := vv % 2 ^ 8) (d := 3) (by omega) (by decide) (by decide)).trans (by rw [← hv3]; rfl)) ?_
        refine lv_iadd hx hb dL_does_206 ?_
        refine endI (r := 5) (by decide) ?_
        refine lv_iload_n hx hb dL_does_207 rfl (lv_at hl 3 rfl) ?_
        refine lv_iconst (v := 2) hx hb dL_does_208 (by decide) ?_
        refine lv_ishr hx hb dL_does_209 ?_
        refine endI (r := nI (vv / 2 ^ 2)) (nI_shr (k := 2) hvv (by decide)) ?_
        refine lv_bipush (v := 15) hx hb dL_does_210 (by decide) ?_
        refine lv_iand hx hb dL_does_212 ?_
        refine endI (r := nI (vv / 2 ^ 2 % 2 ^ 4)) (nI_and (vv / 2 ^ 2) 4 (Nat.lt_of_le_of_lt (Nat.div_le_self _ _) hvv) (by decide)) ?_
        refine lcSi (S := S4) (ws1 := fun u => (WIN T v B u.1 g ln u.2.1 u.2.2.1 pl f0 f1 u.2.2.2 : va_W)) (wc1 := fun u => WIN T v B u.1 g ln u.2.1 u.2.2.1 pl f0 f1 u.2.2.2) (As := [.ref (v 0), .int (5), .int (nI (vv / 2 ^ 2 % 2 ^ 4))]) (rest := []) ⟨hx, hb, hml, hown, hts⟩ (c_ex_do5 l hl9 D T aK aV v B O g ln un nx pl f0 f1 f2 ((nI (vv / 2 ^ 2 % 2 ^ 4))) N K C nt hOV hG hnt9 _) (va_cwS 3 hts (gC gl_L_call__) rfl rfl rfl (by decide +kernel) ⟨Nat.le_of_ble_eq_true rfl, Nat.le_of_ble_eq_true rfl⟩) (fun u => Foc.rfl _ _) (Foc.rfl _ _) hC hNC hK hP hD hS hA rfl hl.1 rfl (Nat.le_of_ble_eq_true rfl) ⟨by show _ ≤ 2900; omega, by show _ ≤ 17400; omega⟩ dL_does_213 (fun r9 u H locs hr hP hD hS => ?_)
        obtain ⟨O5, un5, nx5, f25⟩ := u
        obtain ⟨hG5, hd5⟩ := hr
        replace hG5 : GW O5 un5 nx5 f25 := hG5
        replace hd5 : 0 ≤ r9 ∨ O5 0 = O 0 := hd5
        have hP : va_P D vwCl (WIN T v B O5 g ln un5 nx5 pl f0 f1 f25) H := hP
        have hD : va_D A (WIN T v B O5 g ln un5 nx5 pl f0 f1 f25) := hD
        refine lv_istore (lv' := [(5, .int (r9)), (3, .long (stC (O 0) N K C)), (0, .ref (v 0)), (1, .int (nI w)), (2, .int (nI vv))]) hx hb dL_does_216 hl (by decide) rfl (fun ls hl => ?_)
        refine lv_goto (tgt := 283) hx hb dL_does_218 (by decide) ?_
        refine lv_iload hx hb dL_does_283 (lv_at hl 0 rfl) ?_
        refine lv_if_ge (tgt := 297) hx hb dL_does_285 (by decide) (fun c285 => ?_) (fun c285 => ?_)
        ·
          refine lv_iconst (v := 1) hx hb dL_does_297 (by decide) ?_
          refine lv_goto (tgt := 302) hx hb dL_does_298 (by decide) ?_
          exact hret _ _ _ _ _ _ 1 (O5, un5, nx5, f25) dL_does_302 ⟨rfl, hG5⟩ hP hD hS (by omega) (by omega)
        ·
          have hO5 : O5 0 = O 0 := hd5.resolve_left c285
          have hOI5 : OI (O5 0) N K C nt := by rw [hO5]; exact hOI
          refine lv_aload_n hx hb dL_does_288 rfl (lv_at hl 2 rfl) ?_
          refine lqSl (As := [.ref (v 0)]) (rest := []) ⟨hx, hb, hml, hown, hts⟩ (c_L_state l hl9 D T aK aV v B O5 g ln un5 nx5 pl f0 f1 f25 N K C nt hOI5 _) (va_cwS 1 hts (gC gl_L_state) rfl rfl rfl (by decide +kernel) ⟨Nat.le_of_ble_eq_true rfl, Nat.le_of_ble_eq_true rfl⟩) (Foc.rfl _ _) hC hNC hK hP hD hS hA rfl hl.1 rfl (Nat.le_of_ble_eq_true rfl) ⟨by show _ ≤ 2900; omega, by show _ ≤ 17400; omega⟩ dL_does_289 (fun H locs hP hD hS => ?_)
          have hP : va_P D vwCl (WIN T v B O5 g ln un5 nx5 pl f0 f1 f25) H := hP
          have hD : va_D A (WIN T v B O5 g ln un5 nx5 pl f0 f1 f25) := hD
          refine endL (r := stC (O 0) N K C) (by rw [hO5]) ?_
          refine lv_lload_n hx hb dL_does_292 rfl (lv_at hl 1 rfl) ?_
          refine W.lcmp hx hb dL_does_293 ?_
          refine endI (r := 0) ((lg_cmp_eq _ _).mpr rfl) ?_
          refine lv_if_ne (tgt := 301) hx hb dL_does_294 (by decide) (fun c294 => ?_) (fun c294 => ?_)
          ·
            exact absurd c294 (by decide)
          ·
            refine lv_iconst (v := 1) hx hb dL_does_297 (by decide) ?_
            refine lv_goto (tgt := 302) hx hb dL_does_298 (by decide) ?_
            exact hret _ _ _ _ _ _ 1 (O5, un5, nx5, f25) dL_does_302 ⟨rfl, hG5⟩ hP hD hS (by omega) (by omega)
      ·
        refine lv_irem hx hb dL_does_205 (by decide) ?_
        refine endI (r := 1) ((pk_rem (a := vv % 2 ^ 8) (d := 3) (by omega) (by decide) (by decide)).trans (by rw [← hv3]; rfl)) ?_
        refine lv_iadd hx hb dL_does_206 ?_
        refine endI (r := 6) (by decide) ?_
        refine lv_iload_n hx hb dL_does_207 rfl (lv_at hl 3 rfl) ?_
        refine lv_iconst (v := 2) hx hb dL_does_208 (by decide) ?_
        refine lv_ishr hx hb dL_does_209 ?_
        refine endI (r := nI (vv / 2 ^ 2)) (nI_shr (k := 2) hvv (by decide)) ?_
        refine lv_bipush (v := 15) hx hb dL_does_210 (by decide) ?_
        refine lv_iand hx hb dL_does_212 ?_
        refine endI (r := nI (vv / 2 ^ 2 % 2 ^ 4)) (nI_and (vv / 2 ^ 2) 4 (Nat.lt_of_le_of_lt (Nat.div_le_self _ _) hvv) (by decide)) ?_
        refine lcSi (S := S4) (ws1 := fun u => (WIN T v B u.1 g ln u.2.1 u.2.2.1 pl f0 f1 u.2.2.2 : va_W)) (wc1 := fun u => WIN T v B u.1 g ln u.2.1 u.2.2.1 pl f0 f1 u.2.2.2) (As := [.ref (v 0), .int (6), .int (nI (vv / 2 ^ 2 % 2 ^ 4))]) (rest := []) ⟨hx, hb, hml, hown, hts⟩ (c_ex_do6 l hl9 D T aK aV v B O g ln un nx pl f0 f1 f2 ((nI (vv / 2 ^ 2 % 2 ^ 4))) N K C nt hOV hG hnt9 _) (va_cwS 3 hts (gC gl_L_call__) rfl rfl rfl (by decide +kernel) ⟨Nat.le_of_ble_eq_true rfl, Nat.le_of_ble_eq_true rfl⟩) (fun u => Foc.rfl _ _) (Foc.rfl _ _) hC hNC hK hP hD hS hA rfl hl.1 rfl (Nat.le_of_ble_eq_true rfl) ⟨by show _ ≤ 2900; omega, by show _ ≤ 17400; omega⟩ dL_does_213 (fun r9 u H locs hr hP hD hS => ?_)
        obtain ⟨O5, un5, nx5, f25⟩ := u
        obtain ⟨hG5, hd5⟩ := hr
        replace hG5 : GW O5 un5 nx5 f25 := hG5
        replace hd5 : 0 ≤ r9 ∨ O5 0 = O 0 := hd5
        have hP : va_P D vwCl (WIN T v B O5 g ln un5 nx5 pl f0 f1 f25) H := hP
        have hD : va_D A (WIN T v B O5 g ln un5 nx5 pl f0 f1 f25) := hD
        refine lv_istore (lv' := [(5, .int (r9)), (3, .long (stC (O 0) N K C)), (0, .ref (v 0)), (1, .int (nI w)), (2, .int (nI vv))]) hx hb dL_does_216 hl (by decide) rfl (fun ls hl => ?_)
        refine lv_goto (tgt := 283) hx hb dL_does_218 (by decide) ?_
        refine lv_iload hx hb dL_does_283 (lv_at hl 0 rfl) ?_
        refine lv_if_ge (tgt := 297) hx hb dL_does_285 (by decide) (fun c285 => ?_) (fun c285 => ?_)
        ·
          refine lv_iconst (v := 1) hx hb dL_does_297 (by decide) ?_
          refine lv_goto (tgt := 302) hx hb dL_does_298 (by decide) ?_
          exact hret _ _ _ _ _ _ 1 (O5, un5, nx5, f25) dL_does_302 ⟨rfl, hG5⟩ hP hD hS (by omega) (by omega)
        ·
          have hO5 : O5 0 = O 0 := hd5.resolve_left c285
          have hOI5 : OI (O5 0) N K C nt := by rw [hO5]; exact hOI
          refine lv_aload_n hx hb dL_does_288 rfl (lv_at hl 2 rfl) ?_
          refine lqSl (As := [.ref (v 0)]) (rest := []) ⟨hx, hb, hml, hown, hts⟩ (c_L_state l hl9 D T aK aV v B O5 g ln un5 nx5 pl f0 f1 f25 N K C nt hOI5 _) (va_cwS 1 hts (gC gl_L_state) rfl rfl rfl (by decide +kernel) ⟨Nat.le_of_ble_eq_true rfl, Nat.le_of_ble_eq_true rfl⟩) (Foc.rfl _ _) hC hNC hK hP hD hS hA rfl hl.1 rfl (Nat.le_of_ble_eq_true rfl) ⟨by show _ ≤ 2900; omega, by show _ ≤ 17400; omega⟩ dL_does_289 (fun H locs hP hD hS => ?_)
          have hP : va_P D vwCl (WIN T v B O5 g ln un5 nx5 pl f0 f1 f25) H := hP
          have hD : va_D A (WIN T v B O5 g ln un5 nx5 pl f0 f1 f25) := hD
          refine endL (r := stC (O 0) N K C) (by rw [hO5]) ?_
          refine lv_lload_n hx hb dL_does_292 rfl (lv_at hl 1 rfl) ?_
          refine W.lcmp hx hb dL_does_293 ?_
          refine endI (r := 0) ((lg_cmp_eq _ _).mpr rfl) ?_
          refine lv_if_ne (tgt := 301) hx hb dL_does_294 (by decide) (fun c294 => ?_) (fun c294 => ?_)
          ·
            exact absurd c294 (by decide)
          ·
            refine lv_iconst (v := 1) hx hb dL_does_297 (by decide) ?_
            refine lv_goto (tgt := 302) hx hb dL_does_298 (by decide) ?_
            exact hret _ _ _ _ _ _ 1 (O5, un5, nx5, f25) dL_does_302 ⟨rfl, hG5⟩ hP hD hS (by omega) (by omega)
      ·
        refine lv_irem hx hb dL_does_205 (by decide) ?_
        refine endI (r := 2) ((pk_rem (a := vv % 2 ^ 8) (d := 3) (by omega) (by decide) (by decide)).trans (by rw [← hv3]; rfl)) ?_
        refine lv_iadd hx hb dL_does_206 ?_
        refine endI (r := 7) (by decide) ?_
        refine lv_iload_n hx hb dL_does_207 rfl (lv_at hl 3 rfl) ?_
        refine lv_iconst (v := 2) hx hb dL_does_208 (by decide) ?_
        refine lv_ishr hx hb dL_does_209 ?_
        refine endI (r := nI (vv / 2 ^ 2)) (nI_shr (k := 2) hvv (by decide)) ?_
        refine lv_bipush (v := 15) hx hb dL_does_210 (by decide) ?_
        refine lv_iand hx hb dL_does_212 ?_
        refine endI (r := nI (vv / 2 ^ 2 % 2 ^ 4)) (nI_and (vv / 2 ^ 2) 4 (Nat.lt_of_le_of_lt (Nat.div_le_self _ _) hvv) (by decide)) ?_
        refine lcSi (S := S4) (ws1 := fun u => (WIN T v B u.1 g ln u.2.1 u.2.2.1 pl f0 f1 u.2.2.2 : va_W)) (wc1 := fun u => WIN T v B u.1 g ln u.2.1 u.2.2.1 pl f0 f1 u.2.2.2) (As := [.ref (v 0), .int (7), .int (nI (vv / 2 ^ 2 % 2 ^ 4))]) (rest := []) ⟨hx, hb, hml, hown, hts⟩ (c_ex_do7 l hl9 D T aK aV v B O g ln un nx pl f0 f1 f2 ((nI (vv / 2 ^ 2 % 2 ^ 4))) N K C nt hOV hG hnt9 _) (va_cwS 3 hts (gC gl_L_call__) rfl rfl rfl (by decide +kernel) ⟨Nat.le_of_ble_eq_true rfl, Nat.le_of_ble_eq_true rfl⟩) (fun u => Foc.rfl _ _) (Foc.rfl _ _) hC hNC hK hP hD hS hA rfl hl.1 rfl (Nat.le_of_ble_eq_true rfl) ⟨by show _ ≤ 2900; omega, by show _ ≤ 17400; omega⟩ dL_does_213 (fun r9 u H locs hr hP hD hS => ?_)
        obtain ⟨O5, un5, nx5, f25⟩ := u
        obtain ⟨hG5, hd5⟩ := hr
        replace hG5 : GW O5 un5 nx5 f25 := hG5
        replace hd5 : 0 ≤ r9 ∨ O5 0 = O 0 := hd5
        have hP : va_P D vwCl (WIN T v B O5 g ln un5 nx5 pl f0 f1 f25) H := hP
        have hD : va_D A (WIN T v B O5 g ln un5 nx5 pl f0 f1 f25) := hD
        refine lv_istore (lv' := [(5, .int (r9)), (3, .long (stC (O 0) N K C)), (0, .ref (v 0)), (1, .int (nI w)), (2, .int (nI vv))]) hx hb dL_does_216 hl (by decide) rfl (fun ls hl => ?_)
        refine lv_goto (tgt := 283) hx hb dL_does_218 (by decide) ?_
        refine lv_iload hx hb dL_does_283 (lv_at hl 0 rfl) ?_
        refine lv_if_ge (tgt := 297) hx hb dL_does_285 (by decide) (fun c285 => ?_) (fun c285 => ?_)
        ·
          refine lv_iconst (v := 1) hx hb dL_does_297 (by decide) ?_
          refine lv_goto (tgt := 302) hx hb dL_does_298 (by decide) ?_
          exact hret _ _ _ _ _ _ 1 (O5, un5, nx5, f25) dL_does_302 ⟨rfl, hG5⟩ hP hD hS (by omega) (by omega)
        ·
          have hO5 : O5 0 = O 0 := hd5.resolve_left c285
          have hOI5 : OI (O5 0) N K C nt := by rw [hO5]; exact hOI
          refine lv_aload_n hx hb dL_does_288 rfl (lv_at hl 2 rfl) ?_
          refine lqSl (As := [.ref (v 0)]) (rest := []) ⟨hx, hb, hml, hown, hts⟩ (c_L_state l hl9 D T aK aV v B O5 g ln un5 nx5 pl f0 f1 f25 N K C nt hOI5 _) (va_cwS 1 hts (gC gl_L_state) rfl rfl rfl (by decide +kernel) ⟨Nat.le_of_ble_eq_true rfl, Nat.le_of_ble_eq_true rfl⟩) (Foc.rfl _ _) hC hNC hK hP hD hS hA rfl hl.1 rfl (Nat.le_of_ble_eq_true rfl) ⟨by show _ ≤ 2900; omega, by show _ ≤ 17400; omega⟩ dL_does_289 (fun H locs hP hD hS => ?_)
          have hP : va_P D vwCl (WIN T v B O5 g ln un5 nx5 pl f0 f1 f25) H := hP
          have hD : va_D A (WIN T v B O5 g ln un5 nx5 pl f0 f1 f25) := hD
          refine endL (r := stC (O 0) N K C) (by rw [hO5]) ?_
          refine lv_lload_n hx hb dL_does_292 rfl (lv_at hl 1 rfl) ?_
          refine W.lcmp hx hb dL_does_293 ?_
          refine endI (r := 0) ((lg_cmp_eq _ _).mpr rfl) ?_
          refine lv_if_ne (tgt := 301) hx hb dL_does_294 (by decide) (fun c294 => ?_) (fun c294 => ?_)
          ·
            exact absurd c294 (by decide)
          ·
            refine lv_iconst (v := 1) hx hb dL_does_297 (by decide) ?_
            refine lv_goto (tgt := 302) hx hb dL_does_298 (by decide) ?_
            exact hret _ _ _ _ _ _ 1 (O5, un5, nx5, f25) dL_does_302 ⟨rfl, hG5⟩ hP hD hS (by omega) (by omega)
    ·
      refine lv_tableIn (off := 212) (tgt := 221) hx hb dL_does_9 (by decide) (by decide) (by decide) (by decide) ?_
      refine lv_aload_n hx hb dL_does_221 rfl (lv_at hl 1 rfl) ?_
      refine lv_bipush (v := 8) hx hb dL_does_222 (by decide) ?_
      refine lv_iconst (v := 1) hx hb dL_does_224 (by decide) ?_
      refine lv_iload_n hx hb dL_does_225 rfl (lv_at hl 3 rfl) ?_
      refine lv_bipush (v := 7) hx hb dL_does_226 (by decide) ?_
      refine lv_iand hx hb dL_does_228 ?_
      refine endI (r := nI (vv % 2 ^ 3)) (nI_and vv 3 hvv (by decide)) ?_
      refine lv_iadd hx hb dL_does_229 ?_
      refine endI (r := nI (1 + (vv % 2 ^ 3))) (nI_add _ _) ?_
      refine lcSi (S := S4) (ws1 := fun u => (WIN T v B u.1 g ln u.2.1 u.2.2.1 pl f0 f1 u.2.2.2 : va_W)) (wc1 := fun u => WIN T v B u.1 g ln u.2.1 u.2.2.1 pl f0 f1 u.2.2.2) (As := [.ref (v 0), .int (8), .int (nI (1 + (vv % 2 ^ 3)))]) (rest := []) ⟨hx, hb, hml, hown, hts⟩ (c_ex_do8 l hl9 D T aK aV v B O g ln un nx pl f0 f1 f2 ((nI (1 + (vv % 2 ^ 3)))) N K C nt hOV hG hnt9 _) (va_cwS 3 hts (gC gl_L_call__) rfl rfl rfl (by decide +kernel) ⟨Nat.le_of_ble_eq_true rfl, Nat.le_of_ble_eq_true rfl⟩) (fun u => Foc.rfl _ _) (Foc.rfl _ _) hC hNC hK hP hD hS hA rfl hl.1 rfl (Nat.le_of_ble_eq_true rfl) ⟨by show _ ≤ 2900; omega, by show _ ≤ 17400; omega⟩ dL_does_230 (fun r9 u H locs hr hP hD hS => ?_)
      obtain ⟨O5, un5, nx5, f25⟩ := u
      obtain ⟨hG5, hd5⟩ := hr
      replace hG5 : GW O5 un5 nx5 f25 := hG5
      replace hd5 : 0 ≤ r9 ∨ O5 0 = O 0 := hd5
      have hP : va_P D vwCl (WIN T v B O5 g ln un5 nx5 pl f0 f1 f25) H := hP
      have hD : va_D A (WIN T v B O5 g ln un5 nx5 pl f0 f1 f25) := hD
      refine lv_istore (lv' := [(5, .int (r9)), (3, .long (stC (O 0) N K C)), (0, .ref (v 0)), (1, .int (nI w)), (2, .int (nI vv))]) hx hb dL_does_233 hl (by decide) rfl (fun ls hl => ?_)
      refine lv_goto (tgt := 283) hx hb dL_does_235 (by decide) ?_
      refine lv_iload hx hb dL_does_283 (lv_at hl 0 rfl) ?_
      refine lv_if_ge (tgt := 297) hx hb dL_does_285 (by decide) (fun c285 => ?_) (fun c285 => ?_)
      ·
        refine lv_iconst (v := 1) hx hb dL_does_297 (by decide) ?_
        refine lv_goto (tgt := 302) hx hb dL_does_298 (by decide) ?_
        exact hret _ _ _ _ _ _ 1 (O5, un5, nx5, f25) dL_does_302 ⟨rfl, hG5⟩ hP hD hS (by omega) (by omega)
      ·
        have hO5 : O5 0 = O 0 := hd5.resolve_left c285
        have hOI5 : OI (O5 0) N K C nt := by rw [hO5]; exact hOI
        refine lv_aload_n hx hb dL_does_288 rfl (lv_at hl 2 rfl) ?_
        refine lqSl (As := [.ref (v 0)]) (rest := []) ⟨hx, hb, hml, hown, hts⟩ (c_L_state l hl9 D T aK aV v B O5 g ln un5 nx5 pl f0 f1 f25 N K C nt hOI5 _) (va_cwS 1 hts (gC gl_L_state) rfl rfl rfl (by decide +kernel) ⟨Nat.le_of_ble_eq_true rfl, Nat.le_of_ble_eq_true rfl⟩) (Foc.rfl _ _) hC hNC hK hP hD hS hA rfl hl.1 rfl (Nat.le_of_ble_eq_true rfl) ⟨by show _ ≤ 2900; omega, by show _ ≤ 17400; omega⟩ dL_does_289 (fun H locs hP hD hS => ?_)
        have hP : va_P D vwCl (WIN T v B O5 g ln un5 nx5 pl f0 f1 f25) H := hP
        have hD : va_D A (WIN T v B O5 g ln un5 nx5 pl f0 f1 f25) := hD
        refine endL (r := stC (O 0) N K C) (by rw [hO5]) ?_
        refine lv_lload_n hx hb dL_does_292 rfl (lv_at hl 1 rfl) ?_
        refine W.lcmp hx hb dL_does_293 ?_
        refine endI (r := 0) ((lg_cmp_eq _ _).mpr rfl) ?_
        refine lv_if_ne (tgt := 301) hx hb dL_does_294 (by decide) (fun c294 => ?_) (fun c294 => ?_)
        ·
          exact absurd c294 (by decide)
        ·
          refine lv_iconst (v := 1) hx hb dL_does_297 (by decide) ?_
          refine lv_goto (tgt := 302) hx hb dL_does_298 (by decide) ?_
          exact hret _ _ _ _ _ _ 1 (O5, un5, nx5, f25) dL_does_302 ⟨rfl, hG5⟩ hP hD hS (by omega) (by omega)
    ·
      refine lv_tableIn (off := 212) (tgt := 221) hx hb dL_does_9 (by decide) (by decide) (by decide) (by decide) ?_
      refine lv_aload_n hx hb dL_does_221 rfl (lv_at hl 1 rfl) ?_
      refine lv_bipush (v := 8) hx hb dL_does_222 (by decide) ?_
      refine lv_iconst (v := 1) hx hb dL_does_224 (by decide) ?_
      refine lv_iload_n hx hb dL_does_225 rfl (lv_at hl 3 rfl) ?_
      refine lv_bipush (v := 7) hx hb dL_does_226 (by decide) ?_
      refine lv_iand hx hb dL_does_228 ?_
      refine endI (r := nI (vv % 2 ^ 3)) (nI_and vv 3 hvv (by decide)) ?_
      refine lv_iadd hx hb dL_does_229 ?_
      refine endI (r := nI (1 + (vv % 2 ^ 3))) (nI_add _ _) ?_
      refine lcSi (S := S4) (ws1 := fun u => (WIN T v B u.1 g ln u.2.1 u.2.2.1 pl f0 f1 u.2.2.2 : va_W)) (wc1 := fun u => WIN T v B u.1 g ln u.2.1 u.2.2.1 pl f0 f1 u.2.2.2) (As := [.ref (v 0), .int (8), .int (nI (1 + (vv % 2 ^ 3)))]) (rest := []) ⟨hx, hb, hml, hown, hts⟩ (c_ex_do8 l hl9 D T aK aV v B O g ln un nx pl f0 f1 f2 ((nI (1 + (vv % 2 ^ 3)))) N K C nt hOV hG hnt9 _) (va_cwS 3 hts (gC gl_L_call__) rfl rfl rfl (by decide +kernel) ⟨Nat.le_of_ble_eq_true rfl, Nat.le_of_ble_eq_true rfl⟩) (fun u => Foc.rfl _ _) (Foc.rfl _ _) hC hNC hK hP hD hS hA rfl hl.1 rfl (Nat.le_of_ble_eq_true rfl) ⟨by show _ ≤ 2900; omega, by show _ ≤ 17400; omega⟩ dL_does_230 (fun r9 u H locs hr hP hD hS => ?_)
      obtain ⟨O5, un5, nx5, f25⟩ := u
      obtain ⟨hG5, hd5⟩ := hr
      replace hG5 : GW O5 un5 nx5 f25 := hG5
      replace hd5 : 0 ≤ r9 ∨ O5 0 = O 0 := hd5
      have hP : va_P D vwCl (WIN T v B O5 g ln un5 nx5 pl f0 f1 f25) H := hP
      have hD : va_D A (WIN T v B O5 g ln un5 nx5 pl f0 f1 f25) := hD
      refine lv_istore (lv' := [(5, .int (r9)), (3, .long (stC (O 0) N K C)), (0, .ref (v 0)), (1, .int (nI w)), (2, .int (nI vv))]) hx hb dL_does_233 hl (by decide) rfl (fun ls hl => ?_)
      refine lv_goto (tgt := 283) hx hb dL_does_235 (by decide) ?_
      refine lv_iload hx hb dL_does_283 (lv_at hl 0 rfl) ?_
      refine lv_if_ge (tgt := 297) hx hb dL_does_285 (by decide) (fun c285 => ?_) (fun c285 => ?_)
      ·
        refine lv_iconst (v := 1) hx hb dL_does_297 (by decide) ?_
        refine lv_goto (tgt := 302) hx hb dL_does_298 (by decide) ?_
        exact hret _ _ _ _ _ _ 1 (O5, un5, nx5, f25) dL_does_302 ⟨rfl, hG5⟩ hP hD hS (by omega) (by omega)
      ·
        have hO5 : O5 0 = O 0 := hd5.resolve_left c285
        have hOI5 : OI (O5 0) N K C nt := by rw [hO5]; exact hOI
        refine lv_aload_n hx hb dL_does_288 rfl (lv_at hl 2 rfl) ?_
        refine lqSl (As := [.ref (v 0)]) (rest := []) ⟨hx, hb, hml, hown, hts⟩ (c_L_state l hl9 D T aK aV v B O5 g ln un5 nx5 pl f0 f1 f25 N K C nt hOI5 _) (va_cwS 1 hts (gC gl_L_state) rfl rfl rfl (by decide +kernel) ⟨Nat.le_of_ble_eq_true rfl, Nat.le_of_ble_eq_true rfl⟩) (Foc.rfl _ _) hC hNC hK hP hD hS hA rfl hl.1 rfl (Nat.le_of_ble_eq_true rfl) ⟨by show _ ≤ 2900; omega, by show _ ≤ 17400; omega⟩ dL_does_289 (fun H locs hP hD hS => ?_)
        have hP : va_P D vwCl (WIN T v B O5 g ln un5 nx5 pl f0 f1 f25) H := hP
        have hD : va_D A (WIN T v B O5 g ln un5 nx5 pl f0 f1 f25) := hD
        refine endL (r := stC (O 0) N K C) (by rw [hO5]) ?_
        refine lv_lload_n hx hb dL_does_292 rfl (lv_at hl 1 rfl) ?_
        refine W.lcmp hx hb dL_does_293 ?_
        refine endI (r := 0) ((lg_cmp_eq _ _).mpr rfl) ?_
        refine lv_if_ne (tgt := 301) hx hb dL_does_294 (by decide) (fun c294 => ?_) (fun c294 => ?_)
        ·
          exact absurd c294 (by decide)
        ·
          refine lv_iconst (v := 1) hx hb dL_does_297 (by decide) ?_
          refine lv_goto (tgt := 302) hx hb dL_does_298 (by decide) ?_
          exact hret _ _ _ _ _ _ 1 (O5, un5, nx5, f25) dL_does_302 ⟨rfl, hG5⟩ hP hD hS (by omega) (by omega)
    ·
      refine lv_tableIn (off := 212) (tgt := 221) hx hb dL_does_9 (by decide) (by decide) (by decide) (by decide) ?_
      refine lv_aload_n hx hb dL_does_221 rfl (lv_at hl 1 rfl) ?_
      refine lv_bipush (v := 8) hx hb dL_does_222 (by decide) ?_
      refine lv_iconst (v := 1) hx hb dL_does_224 (by decide) ?_
      refine lv_iload_n hx hb dL_does_225 rfl (lv_at hl 3 rfl) ?_
      refine lv_bipush (v := 7) hx hb dL_does_226 (by decide) ?_
      refine lv_iand hx hb dL_does_228 ?_
      refine endI (r := nI (vv % 2 ^ 3)) (nI_and vv 3 hvv (by decide)) ?_
      refine lv_iadd hx hb dL_does_229 ?_
      refine endI (r := nI (1 + (vv % 2 ^ 3))) (nI_add _ _) ?_
      refine lcSi (S := S4) (ws1 := fun u => (WIN T v B u.1 g ln u.2.1 u.2.2.1 pl f0 f1 u.2.2.2 : va_W)) (wc1 := fun u => WIN T v B u.1 g ln u.2.1 u.2.2.1 pl f0 f1 u.2.2.2) (As := [.ref (v 0), .int (8), .int (nI (1 + (vv % 2 ^ 3)))]) (rest := []) ⟨hx, hb, hml, hown, hts⟩ (c_ex_do8 l hl9 D T aK aV v B O g ln un nx pl f0 f1 f2 ((nI (1 + (vv % 2 ^ 3)))) N K C nt hOV hG hnt9 _) (va_cwS 3 hts (gC gl_L_call__) rfl rfl rfl (by decide +kernel) ⟨Nat.le_of_ble_eq_true rfl, Nat.le_of_ble_eq_true rfl⟩) (fun u => Foc.rfl _ _) (Foc.rfl _ _) hC hNC hK hP hD hS hA rfl hl.1 rfl (Nat.le_of_ble_eq_true rfl) ⟨by show _ ≤ 2900; omega, by show _ ≤ 17400; omega⟩ dL_does_230 (fun r9 u H locs hr hP hD hS => ?_)
      obtain ⟨O5, un5, nx5, f25⟩ := u
      obtain ⟨hG5, hd5⟩ := hr
      replace hG5 : GW O5 un5 nx5 f25 := hG5
      replace hd5 : 0 ≤ r9 ∨ O5 0 = O 0 := hd5
      have hP : va_P D vwCl (WIN T v B O5 g ln un5 nx5 pl f0 f1 f25) H := hP
      have hD : va_D A (WIN T v B O5 g ln un5 nx5 pl f0 f1 f25) := hD
      refine lv_istore (lv' := [(5, .int (r9)), (3, .long (stC (O 0) N K C)), (0, .ref (v 0)), (1, .int (nI w)), (2, .int (nI vv))]) hx hb dL_does_233 hl (by decide) rfl (fun ls hl => ?_)
      refine lv_goto (tgt := 283) hx hb dL_does_235 (by decide) ?_
      refine lv_iload hx hb dL_does_283 (lv_at hl 0 rfl) ?_
      refine lv_if_ge (tgt := 297) hx hb dL_does_285 (by decide) (fun c285 => ?_) (fun c285 => ?_)
      ·
        refine lv_iconst (v := 1) hx hb dL_does_297 (by decide) ?_
        refine lv_goto (tgt := 302) hx hb dL_does_298 (by decide) ?_
        exact hret _ _ _ _ _ _ 1 (O5, un5, nx5, f25) dL_does_302 ⟨rfl, hG5⟩ hP hD hS (by omega) (by omega)
      ·
        have hO5 : O5 0 = O 0 := hd5.resolve_left c285
        have hOI5 : OI (O5 0) N K C nt := by rw [hO5]; exact hOI
        refine lv_aload_n hx hb dL_does_288 rfl (lv_at hl 2 rfl) ?_
        refine lqSl (As := [.ref (v 0)]) (rest := []) ⟨hx, hb, hml, hown, hts⟩ (c_L_state l hl9 D T aK aV v B O5 g ln un5 nx5 pl f0 f1 f25 N K C nt hOI5 _) (va_cwS 1 hts (gC gl_L_state) rfl rfl rfl (by decide +kernel) ⟨Nat.le_of_ble_eq_true rfl, Nat.le_of_ble_eq_true rfl⟩) (Foc.rfl _ _) hC hNC hK hP hD hS hA rfl hl.1 rfl (Nat.le_of_ble_eq_true rfl) ⟨by show _ ≤ 2900; omega, by show _ ≤ 17400; omega⟩ dL_does_289 (fun H locs hP hD hS => ?_)
        have hP : va_P D vwCl (WIN T v B O5 g ln un5 nx5 pl f0 f1 f25) H := hP
        have hD : va_D A (WIN T v B O5 g ln un5 nx5 pl f0 f1 f25) := hD
        refine endL (r := stC (O 0) N K C) (by rw [hO5]) ?_
        refine lv_lload_n hx hb dL_does_292 rfl (lv_at hl 1 rfl) ?_
        refine W.lcmp hx hb dL_does_293 ?_
        refine endI (r := 0) ((lg_cmp_eq _ _).mpr rfl) ?_
        refine lv_if_ne (tgt := 301) hx hb dL_does_294 (by decide) (fun c294 => ?_) (fun c294 => ?_)
        ·
          exact absurd c294 (by decide)
        ·
          refine lv_iconst (v := 1) hx hb dL_does_297 (by decide) ?_
          refine lv_goto (tgt := 302) hx hb dL_does_298 (by decide) ?_
          exact hret _ _ _ _ _ _ 1 (O5, un5, nx5, f25) dL_does_302 ⟨rfl, hG5⟩ hP hD hS (by omega) (by omega)
    ·
      refine lv_tableIn (off := 212) (tgt := 221) hx hb dL_does_9 (by decide) (by decide) (by decide) (by decide) ?_
      refine lv_aload_n hx hb dL_does_221 rfl (lv_at hl 1 rfl) ?_
      refine lv_bipush (v := 8) hx hb dL_does_222 (by decide) ?_
      refine lv_iconst (v := 1) hx hb dL_does_224 (by decide) ?_
      refine lv_iload_n hx hb dL_does_225 rfl (lv_at hl 3 rfl) ?_
      refine lv_bipush (v := 7) hx hb dL_does_226 (by decide) ?_
      refine lv_iand hx hb dL_does_228 ?_
      refine endI (r := nI (vv % 2 ^ 3)) (nI_and vv 3 hvv (by decide)) ?_
      refine lv_iadd hx hb dL_does_229 ?_
      refine endI (r := nI (1 + (vv % 2 ^ 3))) (nI_add _ _) ?_
      refine lcSi (S := S4) (ws1 := fun u => (WIN T v B u.1 g ln u.2.1 u.2.2.1 pl f0 f1 u.2.2.2 : va_W)) (wc1 := fun u => WIN T v B u.1 g ln u.2.1 u.2.2.1 pl f0 f1 u.2.2.2) (As := [.ref (v 0), .int (8), .int (nI (1 + (vv % 2 ^ 3)))]) (rest := []) ⟨hx, hb, hml, hown, hts⟩ (c_ex_do8 l hl9 D T aK aV v B O g ln un nx pl f0 f1 f2 ((nI (1 + (vv % 2 ^ 3)))) N K C nt hOV hG hnt9 _) (va_cwS 3 hts (gC gl_L_call__) rfl rfl rfl (by decide +kernel) ⟨Nat.le_of_ble_eq_true rfl, Nat.le_of_ble_eq_true rfl⟩) (fun u => Foc.rfl _ _) (Foc.rfl _ _) hC hNC hK hP hD hS hA rfl hl.1 rfl (Nat.le_of_ble_eq_true rfl) ⟨by show _ ≤ 2900; omega, by show _ ≤ 17400; omega⟩ dL_does_230 (fun r9 u H locs hr hP hD hS => ?_)
      obtain ⟨O5, un5, nx5, f25⟩ := u
      obtain ⟨hG5, hd5⟩ := hr
      replace hG5 : GW O5 un5 nx5 f25 := hG5
      replace hd5 : 0 ≤ r9 ∨ O5 0 = O 0 := hd5
      have hP : va_P D vwCl (WIN T v B O5 g ln un5 nx5 pl f0 f1 f25) H := hP
      have hD : va_D A (WIN T v B O5 g ln un5 nx5 pl f0 f1 f25) := hD
      refine lv_istore (lv' := [(5, .int (r9)), (3, .long (stC (O 0) N K C)), (0, .ref (v 0)), (1, .int (nI w)), (2, .int (nI vv))]) hx hb dL_does_233 hl (by decide) rfl (fun ls hl => ?_)
      refine lv_goto (tgt := 283) hx hb dL_does_235 (by decide) ?_
      refine lv_iload hx hb dL_does_283 (lv_at hl 0 rfl) ?_
      refine lv_if_ge (tgt := 297) hx hb dL_does_285 (by decide) (fun c285 => ?_) (fun c285 => ?_)
      ·
        refine lv_iconst (v := 1) hx hb dL_does_297 (by decide) ?_
        refine lv_goto (tgt := 302) hx hb dL_does_298 (by decide) ?_
        exact hret _ _ _ _ _ _ 1 (O5, un5, nx5, f25) dL_does_302 ⟨rfl, hG5⟩ hP hD hS (by omega) (by omega)
      ·
        have hO5 : O5 0 = O 0 := hd5.resolve_left c285
        have hOI5 : OI (O5 0) N K C nt := by rw [hO5]; exact hOI
        refine lv_aload_n hx hb dL_does_288 rfl (lv_at hl 2 rfl) ?_
        refine lqSl (As := [.ref (v 0)]) (rest := []) ⟨hx, hb, hml, hown, hts⟩ (c_L_state l hl9 D T aK aV v B O5 g ln un5 nx5 pl f0 f1 f25 N K C nt hOI5 _) (va_cwS 1 hts (gC gl_L_state) rfl rfl rfl (by decide +kernel) ⟨Nat.le_of_ble_eq_true rfl, Nat.le_of_ble_eq_true rfl⟩) (Foc.rfl _ _) hC hNC hK hP hD hS hA rfl hl.1 rfl (Nat.le_of_ble_eq_true rfl) ⟨by show _ ≤ 2900; omega, by show _ ≤ 17400; omega⟩ dL_does_289 (fun H locs hP hD hS => ?_)
        have hP : va_P D vwCl (WIN T v B O5 g ln un5 nx5 pl f0 f1 f25) H := hP
        have hD : va_D A (WIN T v B O5 g ln un5 nx5 pl f0 f1 f25) := hD
        refine endL (r := stC (O 0) N K C) (by rw [hO5]) ?_
        refine lv_lload_n hx hb dL_does_292 rfl (lv_at hl 1 rfl) ?_
        refine W.lcmp hx hb dL_does_293 ?_
        refine endI (r := 0) ((lg_cmp_eq _ _).mpr rfl) ?_
        refine lv_if_ne (tgt := 301) hx hb dL_does_294 (by decide) (fun c294 => ?_) (fun c294 => ?_)
        ·
          exact absurd c294 (by decide)
        ·
          refine lv_iconst (v := 1) hx hb dL_does_297 (by decide) ?_
          refine lv_goto (tgt := 302) hx hb dL_does_298 (by decide) ?_
          exact hret _ _ _ _ _ _ 1 (O5, un5, nx5, f25) dL_does_302 ⟨rfl, hG5⟩ hP hD hS (by omega) (by omega)
    ·
      refine lv_tableIn (off := 212) (tgt := 221) hx hb dL_does_9 (by decide) (by decide) (by decide) (by decide) ?_
      refine lv_aload_n hx hb dL_does_221 rfl (lv_at hl 1 rfl) ?_
      refine lv_bipush (v := 8) hx hb dL_does_222 (by decide) ?_
      refine lv_iconst (v := 1) hx hb dL_does_224 (by decide) ?_
      refine lv_iload_n hx hb dL_does_225 rfl (lv_at hl 3 rfl) ?_
      refine lv_bipush (v := 7) hx hb dL_does_226 (by decide) ?_
      refine lv_iand hx hb dL_does_228 ?_
      refine endI (r := nI (vv % 2 ^ 3)) (nI_and vv 3 hvv (by decide)) ?_
      refine lv_iadd hx hb dL_does_229 ?_
      refine endI (r := nI (1 + (vv % 2 ^ 3))) (nI_add _ _) ?_
      refine lcSi (S := S4) (ws1 := fun u => (WIN T v B u.1 g ln u.2.1 u.2.2.1 pl f0 f1 u.2.2.2 : va_W)) (wc1 := fun u => WIN T v B u.1 g ln u.2.1 u.2.2.1 pl f0 f1 u.2.2.2) (As := [.ref (v 0), .int (8), .int (nI (1 + (vv % 2 ^ 3)))]) (rest := []) ⟨hx, hb, hml, hown, hts⟩ (c_ex_do8 l hl9 D T aK aV v B O g ln un nx pl f0 f1 f2 ((nI (1 + (vv % 2 ^ 3)))) N K C nt hOV hG hnt9 _) (va_cwS 3 hts (gC gl_L_call__) rfl rfl rfl (by decide +kernel) ⟨Nat.le_of_ble_eq_true rfl, Nat.le_of_ble_eq_true rfl⟩) (fun u => Foc.rfl _ _) (Foc.rfl _ _) hC hNC hK hP hD hS hA rfl hl.1 rfl (Nat.le_of_ble_eq_true rfl) ⟨by show _ ≤ 2900; omega, by show _ ≤ 17400; omega⟩ dL_does_230 (fun r9 u H locs hr hP hD hS => ?_)
      obtain ⟨O5, un5, nx5, f25⟩ := u
      obtain ⟨hG5, hd5⟩ := hr
      replace hG5 : GW O5 un5 nx5 f25 := hG5
      replace hd5 : 0 ≤ r9 ∨ O5 0 = O 0 := hd5
      have hP : va_P D vwCl (WIN T v B O5 g ln un5 nx5 pl f0 f1 f25) H := hP
      have hD : va_D A (WIN T v B O5 g ln un5 nx5 pl f0 f1 f25) := hD
      refine lv_istore (lv' := [(5, .int (r9)), (3, .long (stC (O 0) N K C)), (0, .ref (v 0)), (1, .int (nI w)), (2, .int (nI vv))]) hx hb dL_does_233 hl (by decide) rfl (fun ls hl => ?_)
      refine lv_goto (tgt := 283) hx hb dL_does_235 (by decide) ?_
      refine lv_iload hx hb dL_does_283 (lv_at hl 0 rfl) ?_
      refine lv_if_ge (tgt := 297) hx hb dL_does_285 (by decide) (fun c285 => ?_) (fun c285 => ?_)
      ·
        refine lv_iconst (v := 1) hx hb dL_does_297 (by decide) ?_
        refine lv_goto (tgt := 302) hx hb dL_does_298 (by decide) ?_
        exact hret _ _ _ _ _ _ 1 (O5, un5, nx5, f25) dL_does_302 ⟨rfl, hG5⟩ hP hD hS (by omega) (by omega)
      ·
        have hO5 : O5 0 = O 0 := hd5.resolve_left c285
        have hOI5 : OI (O5 0) N K C nt := by rw [hO5]; exact hOI
        refine lv_aload_n hx hb dL_does_288 rfl (lv_at hl 2 rfl) ?_
        refine lqSl (As := [.ref (v 0)]) (rest := []) ⟨hx, hb, hml, hown, hts⟩ (c_L_state l hl9 D T aK aV v B O5 g ln un5 nx5 pl f0 f1 f25 N K C nt hOI5 _) (va_cwS 1 hts (gC gl_L_state) rfl rfl rfl (by decide +kernel) ⟨Nat.le_of_ble_eq_true rfl, Nat.le_of_ble_eq_true rfl⟩) (Foc.rfl _ _) hC hNC hK hP hD hS hA rfl hl.1 rfl (Nat.le_of_ble_eq_true rfl) ⟨by show _ ≤ 2900; omega, by show _ ≤ 17400; omega⟩ dL_does_289 (fun H locs hP hD hS => ?_)
        have hP : va_P D vwCl (WIN T v B O5 g ln un5 nx5 pl f0 f1 f25) H := hP
        have hD : va_D A (WIN T v B O5 g ln un5 nx5 pl f0 f1 f25) := hD
        refine endL (r := stC (O 0) N K C) (by rw [hO5]) ?_
        refine lv_lload_n hx hb dL_does_292 rfl (lv_at hl 1 rfl) ?_
        refine W.lcmp hx hb dL_does_293 ?_
        refine endI (r := 0) ((lg_cmp_eq _ _).mpr rfl) ?_
        refine lv_if_ne (tgt := 301) hx hb dL_does_294 (by decide) (fun c294 => ?_) (fun c294 => ?_)
        ·
          exact absurd c294 (by decide)
        ·
          refine lv_iconst (v := 1) hx hb dL_does_297 (by decide) ?_
          refine lv_goto (tgt := 302) hx hb dL_does_298 (by decide) ?_
          exact hret _ _ _ _ _ _ 1 (O5, un5, nx5, f25) dL_does_302 ⟨rfl, hG5⟩ hP hD hS (by omega) (by omega)
    ·
      refine lv_tableIn (off := 229) (tgt := 238) hx hb dL_does_9 (by decide) (by decide) (by decide) (by decide) ?_
      refine lv_aload_n hx hb dL_does_238 rfl (lv_at hl 1 rfl) ?_
      refine lv_iload_n hx hb dL_does_239 rfl (lv_at hl 3 rfl) ?_
      refine lv_iconst (v := 1) hx hb dL_does_240 (by decide) ?_
      refine lv_iand hx hb dL_does_241 ?_
      refine endI (r := nI (vv % 2 ^ 1)) (nI_and vv 1 hvv (by decide)) ?_
      refine lv_if_ne (tgt := 250) hx hb dL_does_242 (by decide) (fun c242 => ?_) (fun c242 => ?_)
      ·
        have c242 : ¬ (vv % 2 ^ 1) = 0 := fun h9 => c242 ((nI_eq (a := (vv % 2 ^ 1)) (b := 0) (by omega) (by omega)).mpr h9)
        refine lv_bipush (v := 11) hx hb dL_does_250 (by decide) ?_
        refine lv_iload_n hx hb dL_does_252 rfl (lv_at hl 3 rfl) ?_
        refine lv_iconst (v := 1) hx hb dL_does_253 (by decide) ?_
        refine lv_ishr hx hb dL_does_254 ?_
        refine endI (r := nI (vv / 2 ^ 1)) (nI_shr (k := 1) hvv (by decide)) ?_
        refine lv_iconst (v := 1) hx hb dL_does_255 (by decide) ?_
        refine lv_iand hx hb dL_does_256 ?_
        refine endI (r := nI (vv / 2 ^ 1 % 2 ^ 1)) (nI_and (vv / 2 ^ 1) 1 (Nat.lt_of_le_of_lt (Nat.div_le_self _ _) hvv) (by decide)) ?_
        refine lcSi (S := S4) (ws1 := fun u => (WIN T v B u.1 g ln u.2.1 u.2.2.1 pl f0 f1 u.2.2.2 : va_W)) (wc1 := fun u => WIN T v B u.1 g ln u.2.1 u.2.2.1 pl f0 f1 u.2.2.2) (As := [.ref (v 0), .int (11), .int (nI (vv / 2 ^ 1 % 2 ^ 1))]) (rest := []) ⟨hx, hb, hml, hown, hts⟩ (c_ex_do11 l hl9 D T aK aV v B O g ln un nx pl f0 f1 f2 ((nI (vv / 2 ^ 1 % 2 ^ 1))) N K C nt hOV hG hnt9 _) (va_cwS 3 hts (gC gl_L_call__) rfl rfl rfl (by decide +kernel) ⟨Nat.le_of_ble_eq_true rfl, Nat.le_of_ble_eq_true rfl⟩) (fun u => Foc.rfl _ _) (Foc.rfl _ _) hC hNC hK hP hD hS hA rfl hl.1 rfl (Nat.le_of_ble_eq_true rfl) ⟨by show _ ≤ 2900; omega, by show _ ≤ 17400; omega⟩ dL_does_257 (fun r9 u H locs hr hP hD hS => ?_)
        obtain ⟨O5, un5, nx5, f25⟩ := u
        obtain ⟨hG5, hd5⟩ := hr
        replace hG5 : GW O5 un5 nx5 f25 := hG5
        replace hd5 : 0 ≤ r9 ∨ O5 0 = O 0 := hd5
        have hP : va_P D vwCl (WIN T v B O5 g ln un5 nx5 pl f0 f1 f25) H := hP
        have hD : va_D A (WIN T v B O5 g ln un5 nx5 pl f0 f1 f25) := hD
        refine lv_istore (lv' := [(5, .int (r9)), (3, .long (stC (O 0) N K C)), (0, .ref (v 0)), (1, .int (nI w)), (2, .int (nI vv))]) hx hb dL_does_260 hl (by decide) rfl (fun ls hl => ?_)
        refine lv_goto (tgt := 283) hx hb dL_does_262 (by decide) ?_
        refine lv_iload hx hb dL_does_283 (lv_at hl 0 rfl) ?_
        refine lv_if_ge (tgt := 297) hx hb dL_does_285 (by decide) (fun c285 => ?_) (fun c285 => ?_)
        ·
          refine lv_iconst (v := 1) hx hb dL_does_297 (by decide) ?_
          refine lv_goto (tgt := 302) hx hb dL_does_298 (by decide) ?_
          exact hret _ _ _ _ _ _ 1 (O5, un5, nx5, f25) dL_does_302 ⟨rfl, hG5⟩ hP hD hS (by omega) (by omega)
        ·
          have hO5 : O5 0 = O 0 := hd5.resolve_left c285
          have hOI5 : OI (O5 0) N K C nt := by rw [hO5]; exact hOI
          refine lv_aload_n hx hb dL_does_288 rfl (lv_at hl 2 rfl) ?_
          refine lqSl (As := [.ref (v 0)]) (rest := []) ⟨hx, hb, hml, hown, hts⟩ (c_L_state l hl9 D T aK aV v B O5 g ln un5 nx5 pl f0 f1 f25 N K C nt hOI5 _) (va_cwS 1 hts (gC gl_L_state) rfl rfl rfl (by decide +kernel) ⟨Nat.le_of_ble_eq_true rfl, Nat.le_of_ble_eq_true rfl⟩) (Foc.rfl _ _) hC hNC hK hP hD hS hA rfl hl.1 rfl (Nat.le_of_ble_eq_true rfl) ⟨by show _ ≤ 2900; omega, by show _ ≤ 17400; omega⟩ dL_does_289 (fun H locs hP hD hS => ?_)
          have hP : va_P D vwCl (WIN T v B O5 g ln un5 nx5 pl f0 f1 f25) H := hP
          have hD : va_D A (WIN T v B O5 g ln un5 nx5 pl f0 f1 f25) := hD
          refine endL (r := stC (O 0) N K C) (by rw [hO5]) ?_
          refine lv_lload_n hx hb dL_does_292 rfl (lv_at hl 1 rfl) ?_
          refine W.lcmp hx hb dL_does_293 ?_
          refine endI (r := 0) ((lg_cmp_eq _ _).mpr rfl) ?_
          refine lv_if_ne (tgt := 301) hx hb dL_does_294 (by decide) (fun c294 => ?_) (fun c294 => ?_)
          ·
            exact absurd c294 (by decide)
          ·
            refine lv_iconst (v := 1) hx hb dL_does_297 (by decide) ?_
            refine lv_goto (tgt := 302) hx hb dL_does_298 (by decide) ?_
            exact hret _ _ _ _ _ _ 1 (O5, un5, nx5, f25) dL_does_302 ⟨rfl, hG5⟩ hP hD hS (by omega) (by omega)
      ·
        have c242 : (vv % 2 ^ 1) = 0 := (nI_eq (a := (vv % 2 ^ 1)) (b := 0) (by omega) (by omega)).mp c242
        refine lv_bipush (v := 10) hx hb dL_does_245 (by decide) ?_
        refine lv_goto (tgt := 252) hx hb dL_does_247 (by decide) ?_
        refine lv_iload_n hx hb dL_does_252 rfl (lv_at hl 3 rfl) ?_
        refine lv_iconst (v := 1) hx hb dL_does_253 (by decide) ?_
        refine lv_ishr hx hb dL_does_254 ?_
        refine endI (r := nI (vv / 2 ^ 1)) (nI_shr (k := 1) hvv (by decide)) ?_
        refine lv_iconst (v := 1) hx hb dL_does_255 (by decide) ?_
        refine lv_iand hx hb dL_does_256 ?_
        refine endI (r := nI (vv / 2 ^ 1 % 2 ^ 1)) (nI_and (vv / 2 ^ 1) 1 (Nat.lt_of_le_of_lt (Nat.div_le_self _ _) hvv) (by decide)) ?_
        refine lcSi (S := S4) (ws1 := fun u => (WIN T v B u.1 g ln u.2.1 u.2.2.1 pl f0 f1 u.2.2.2 : va_W)) (wc1 := fun u => WIN T v B u.1 g ln u.2.1 u.2.2.1 pl f0 f1 u.2.2.2) (As := [.ref (v 0), .int (10), .int (nI (vv / 2 ^ 1 % 2 ^ 1))]) (rest := []) ⟨hx, hb, hml, hown, hts⟩ (c_ex_do10 l hl9 D T aK aV v B O g ln un nx pl f0 f1 f2 ((nI (vv / 2 ^ 1 % 2 ^ 1))) N K C nt hOV hG hnt9 _) (va_cwS 3 hts (gC gl_L_call__) rfl rfl rfl (by decide +kernel) ⟨Nat.le_of_ble_eq_true rfl, Nat.le_of_ble_eq_true rfl⟩) (fun u => Foc.rfl _ _) (Foc.rfl _ _) hC hNC hK hP hD hS hA rfl hl.1 rfl (Nat.le_of_ble_eq_true rfl) ⟨by show _ ≤ 2900; omega, by show _ ≤ 17400; omega⟩ dL_does_257 (fun r9 u H locs hr hP hD hS => ?_)
        obtain ⟨O5, un5, nx5, f25⟩ := u
        obtain ⟨hG5, hd5⟩ := hr
        replace hG5 : GW O5 un5 nx5 f25 := hG5
        replace hd5 : 0 ≤ r9 ∨ O5 0 = O 0 := hd5
        have hP : va_P D vwCl (WIN T v B O5 g ln un5 nx5 pl f0 f1 f25) H := hP
        have hD : va_D A (WIN T v B O5 g ln un5 nx5 pl f0 f1 f25) := hD
        refine lv_istore (lv' := [(5, .int (r9)), (3, .long (stC (O 0) N K C)), (0, .ref (v 0)), (1, .int (nI w)), (2, .int (nI vv))]) hx hb dL_does_260 hl (by decide) rfl (fun ls hl => ?_)
        refine lv_goto (tgt := 283) hx hb dL_does_262 (by decide) ?_
        refine lv_iload hx hb dL_does_283 (lv_at hl 0 rfl) ?_
        refine lv_if_ge (tgt := 297) hx hb dL_does_285 (by decide) (fun c285 => ?_) (fun c285 => ?_)
        ·
          refine lv_iconst (v := 1) hx hb dL_does_297 (by decide) ?_
          refine lv_goto (tgt := 302) hx hb dL_does_298 (by decide) ?_
          exact hret _ _ _ _ _ _ 1 (O5, un5, nx5, f25) dL_does_302 ⟨rfl, hG5⟩ hP hD hS (by omega) (by omega)
        ·
          have hO5 : O5 0 = O 0 := hd5.resolve_left c285
          have hOI5 : OI (O5 0) N K C nt := by rw [hO5]; exact hOI
          refine lv_aload_n hx hb dL_does_288 rfl (lv_at hl 2 rfl) ?_
          refine lqSl (As := [.ref (v 0)]) (rest := []) ⟨hx, hb, hml, hown, hts⟩ (c_L_state l hl9 D T aK aV v B O5 g ln un5 nx5 pl f0 f1 f25 N K C nt hOI5 _) (va_cwS 1 hts (gC gl_L_state) rfl rfl rfl (by decide +kernel) ⟨Nat.le_of_ble_eq_true rfl, Nat.le_of_ble_eq_true rfl⟩) (Foc.rfl _ _) hC hNC hK hP hD hS hA rfl hl.1 rfl (Nat.le_of_ble_eq_true rfl) ⟨by show _ ≤ 2900; omega, by show _ ≤ 17400; omega⟩ dL_does_289 (fun H locs hP hD hS => ?_)
          have hP : va_P D vwCl (WIN T v B O5 g ln un5 nx5 pl f0 f1 f25) H := hP
          have hD : va_D A (WIN T v B O5 g ln un5 nx5 pl f0 f1 f25) := hD
          refine endL (r := stC (O 0) N K C) (by rw [hO5]) ?_
          refine lv_lload_n hx hb dL_does_292 rfl (lv_at hl 1 rfl) ?_
          refine W.lcmp hx hb dL_does_293 ?_
          refine endI (r := 0) ((lg_cmp_eq _ _).mpr rfl) ?_
          refine lv_if_ne (tgt := 301) hx hb dL_does_294 (by decide) (fun c294 => ?_) (fun c294 => ?_)
          ·
            exact absurd c294 (by decide)
          ·
            refine lv_iconst (v := 1) hx hb dL_does_297 (by decide) ?_
            refine lv_goto (tgt := 302) hx hb dL_does_298 (by decide) ?_
            exact hret _ _ _ _ _ _ 1 (O5, un5, nx5, f25) dL_does_302 ⟨rfl, hG5⟩ hP hD hS (by omega) (by omega)
    ·
      refine lv_tableOut (tgt := 265) hx hb dL_does_9 (by decide) (by decide) ?_
      refine lv_aload_n hx hb dL_does_265 rfl (lv_at hl 1 rfl) ?_
      refine lv_bipush (v := 9) hx hb dL_does_266 (by decide) ?_
      refine lv_iconst (v := 0) hx hb dL_does_268 (by decide) ?_
      refine lcSi (S := S4) (ws1 := fun u => (WIN T v B u.1 g ln u.2.1 u.2.2.1 pl f0 f1 u.2.2.2 : va_W)) (wc1 := fun u => WIN T v B u.1 g ln u.2.1 u.2.2.1 pl f0 f1 u.2.2.2) (As := [.ref (v 0), .int (9), .int (0)]) (rest := []) ⟨hx, hb, hml, hown, hts⟩ (c_ex_do9 l hl9 D T aK aV v B O g ln un nx pl f0 f1 f2 N K C nt hOV hG hnt9 _) (va_cwS 3 hts (gC gl_L_call__) rfl rfl rfl (by decide +kernel) ⟨Nat.le_of_ble_eq_true rfl, Nat.le_of_ble_eq_true rfl⟩) (fun u => Foc.rfl _ _) (Foc.rfl _ _) hC hNC hK hP hD hS hA rfl hl.1 rfl (Nat.le_of_ble_eq_true rfl) ⟨by show _ ≤ 2900; omega, by show _ ≤ 17400; omega⟩ dL_does_269 (fun r9 u H locs hr hP hD hS => ?_)
      obtain ⟨O5, un5, nx5, f25⟩ := u
      obtain ⟨hG5, hd5⟩ := hr
      replace hG5 : GW O5 un5 nx5 f25 := hG5
      replace hd5 : ¬ r9 = -104 := hd5
      have hP : va_P D vwCl (WIN T v B O5 g ln un5 nx5 pl f0 f1 f25) H := hP
      have hD : va_D A (WIN T v B O5 g ln un5 nx5 pl f0 f1 f25) := hD
      refine lv_bipush (v := -104) hx hb dL_does_272 (by decide) ?_
      refine lv_icmp_eq (tgt := 281) hx hb dL_does_274 (by decide) (fun c274 => ?_) (fun c274 => ?_)
      ·
        exact absurd c274 hd5
      ·
        refine lv_iconst (v := 1) hx hb dL_does_277 (by decide) ?_
        refine lv_goto (tgt := 282) hx hb dL_does_278 (by decide) ?_
        exact hret _ _ _ _ _ _ 1 (O5, un5, nx5, f25) dL_does_282 ⟨rfl, hG5⟩ hP hD hS (by omega) (by omega)
  exact hgo _ _ hP hS
