/-! the first checks: refused questions -/
set_option maxHeartbeats 1000000 in
theorem c_ask_err15 (l : Launch) (hl9 : l.stackTraces = false) (D : va_G) (T : Nat → ClassId) (aK aV : Nat → Nat) (v : Nat → Nat) (B : Nat → Nat → Nat) (O : Nat → Nat → Nat → Int32) (g : CSt) (ln un nx pl : Nat) (f0 f1 f2 : Nat → Int32)  (N K C nt : Nat) (hOI : OI (O 0) N K C nt) (hg : g.2.2.2.1 = false) (sz : Nat) : Met l yL_call__ wsL_call__ ({ frames := 11, cells := 4, slots := 24, locals := 242 } : Room) (va_Pc [.ref (v 0), .int (15), .int (0)] (LWP D T aK aV (WIN T v B O g ln un nx pl f0 f1 f2) sz)) (va_Qi (fun r9 (_ : Unit) => r9 = -101) (fun _ t => QS D T (va_A (WIN T v B O g ln un nx pl f0 f1 f2) sz) (WIN T v B O g ln un nx pl f0 f1 f2) t) (va_A (WIN T v B O g ln un nx pl f0 f1 f2) sz)) 4 24 (va_A (WIN T v B O g ln un nx pl f0 f1 f2) sz) := by
  refine ask_eqw ?_ ?_ (via3 (fun sz => c_call_15 l hl9 D T aK aV v B O g ln un nx pl f0 f1 f2 (0) (0) (0) (0) (0)   sz) sz)
  · first | (rw [chkB_f hg]; rfl) | rfl
  · first | (rw [chkB_f hg]; rfl) | rfl

set_option maxHeartbeats 1000000 in
theorem c_ask_wr44 (l : Launch) (hl9 : l.stackTraces = false) (D : va_G) (T : Nat → ClassId) (aK aV : Nat → Nat) (v : Nat → Nat) (B : Nat → Nat → Nat) (O : Nat → Nat → Nat → Int32) (g : CSt) (ln un nx pl : Nat) (f0 f1 f2 : Nat → Int32)  (N K C nt : Nat) (hOI : OI (O 0) N K C nt) (hp0 : pl = 0) (hpl : pl ≤ 120) (sz : Nat) : Met l yL_call__ wsL_call__ ({ frames := 11, cells := 4, slots := 24, locals := 242 } : Room) (va_Pc [.ref (v 0), .int (44), .int (0)] (LWP D T aK aV (WIN T v B O g ln un nx pl f0 f1 f2) sz)) (va_Qi (fun r9 (_ : Unit) => r9 = -104) (fun _ t => QS D T (va_A (WIN T v B O g ln un nx pl f0 f1 f2) sz) (WIN T v B O g ln un nx pl f0 f1 f2) t) (va_A (WIN T v B O g ln un nx pl f0 f1 f2) sz)) 4 24 (va_A (WIN T v B O g ln un nx pl f0 f1 f2) sz) := by
  refine ask_eqw ?_ ?_ (via3 (fun sz => c_call_44 l hl9 D T aK aV v B O g ln un nx pl f0 f1 f2 (0) (0) (0) (0) (0)  hpl sz) sz)
  · subst hp0; rfl
  · subst hp0; rfl

set_option maxHeartbeats 1000000 in
theorem c_ask_rs11 (l : Launch) (hl9 : l.stackTraces = false) (D : va_G) (T : Nat → ClassId) (aK aV : Nat → Nat) (v : Nat → Nat) (B : Nat → Nat → Nat) (O : Nat → Nat → Nat → Int32) (g : CSt) (ln un nx pl : Nat) (f0 f1 f2 : Nat → Int32)  (N K C nt : Nat) (hOI : OI (O 0) N K C nt) (hf0 : f2 0 = 0) (hu : un ≤ 8) (hnx : nx < 8) (sz : Nat) : Met l yL_call__ wsL_call__ ({ frames := 11, cells := 4, slots := 24, locals := 242 } : Room) (va_Pc [.ref (v 0), .int (11), .int (0)] (LWP D T aK aV (WIN T v B O g ln un nx pl f0 f1 f2) sz)) (va_Qi (fun r9 (_ : Unit) => r9 = -101) (fun _ t => QS D T (va_A (WIN T v B O g ln un nx pl f0 f1 f2) sz) (WIN T v B O g ln un nx pl f0 f1 f2) t) (va_A (WIN T v B O g ln un nx pl f0 f1 f2) sz)) 4 24 (va_A (WIN T v B O g ln un nx pl f0 f1 f2) sz) := by
  refine ask_eqw ?_ ?_ (via3 (fun sz => c_call_11 l hl9 D T aK aV v B O g ln un nx pl f0 f1 f2 (0) (0) (0) (0) (0)  hu hnx sz) sz)
  · rw [chkB_n (show inN 0 2 = true from rfl), orE_n, chkB_f (show (!decide (f2 (0 : Int32).toNatClampNeg = 0)) = false by rw [show (0 : Int32).toNatClampNeg = 0 from rfl, hf0]; rfl)]; rfl
  · rw [chkB_n (show inN 0 2 = true from rfl), orE_n, chkB_f (show (!decide (f2 (0 : Int32).toNatClampNeg = 0)) = false by rw [show (0 : Int32).toNatClampNeg = 0 from rfl, hf0]; rfl)]; rfl
