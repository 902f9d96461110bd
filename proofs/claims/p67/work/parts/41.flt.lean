/-! quotients of whole numbers are numbers -/
theorem roundRatio_nn (f : FP.Core.Fmt) (s : Bool) (A B : Nat) (e : Int) : FP.Core.roundRatio f s A B e ≠ .nan := by
  unfold FP.Core.roundRatio FP.Core.roundAt FP.Core.settle FP.Core.bound
  split
  · intro h; cases h
  · split <;> split <;> (intro h; cases h)
theorem n64 {r : UInt64} (h : FP.Core.val64 r ≠ .nan) : vf_n64 r := by
  unfold vf_n64
  rw [UInt64.le_iff_toNat_le, UInt64.toNat_and]
  show r.toNat &&& (2 ^ 63 - 1) ≤ 9218868437227405312
  rw [Nat.and_two_pow_sub_one_eq_mod]
  unfold FP.Core.val64 FP.Core.decode at h
  have e1 : FP.Core.fieldE FP.Core.b64 r.toNat = r.toNat / 4503599627370496 % 2048 := rfl
  have e2 : FP.Core.fieldT FP.Core.b64 r.toNat = r.toNat % 4503599627370496 := rfl
  have e3 : FP.Core.b64.exps - 1 = 2047 := rfl
  rw [e1, e2, e3] at h
  by_cases h1 : r.toNat / 4503599627370496 % 2048 = 2047
  · rw [if_pos h1] at h
    by_cases h2 : r.toNat % 4503599627370496 = 0
    · omega
    · rw [if_neg h2] at h; exact absurd rfl h
  · omega
theorem n32 {r : UInt32} (h : FP.Core.val32 r ≠ .nan) : vf_n32 r := by
  unfold vf_n32
  rw [UInt32.le_iff_toNat_le, UInt32.toNat_and]
  show r.toNat &&& (2 ^ 31 - 1) ≤ 2139095040
  rw [Nat.and_two_pow_sub_one_eq_mod]
  unfold FP.Core.val32 FP.Core.decode at h
  have e1 : FP.Core.fieldE FP.Core.b32 r.toNat = r.toNat / 8388608 % 256 := rfl
  have e2 : FP.Core.fieldT FP.Core.b32 r.toNat = r.toNat % 8388608 := rfl
  have e3 : FP.Core.b32.exps - 1 = 255 := rfl
  rw [e1, e2, e3] at h
  by_cases h1 : r.toNat / 8388608 % 256 = 255
  · rw [if_pos h1] at h
    by_cases h2 : r.toNat % 8388608 = 0
    · omega
    · rw [if_neg h2] at h; exact absurd rfl h
  · omega
theorem quot_nn {f : FP.Core.Fmt} {i j : Int} {x y : FP.Core.Datum} (hx : FP.Core.Whole i x) (hy : FP.Core.Whole j y) (hj : j ≠ 0) : FP.Core.quotient f x y ≠ .nan := by
  cases x with
  | nan => exact hx.elim
  | inf => exact hx.elim
  | fin s c q =>
    cases y with
    | nan => exact hy.elim
    | inf => exact hy.elim
    | fin t d r =>
      have hd : d ≠ 0 := fun e => hj ((FP.Core.whole_zero hy).mp e)
      show (if d = 0 then _ else FP.Core.roundRatio f (s != t) c d (q - r)) ≠ .nan
      rw [if_neg hd]
      exact roundRatio_nn _ _ _ _ _
theorem i32_abs (a : Int32) : a.toInt.natAbs ≤ 2 ^ 31 := by
  have h1 := Int32.toInt_lt a
  have h2 := Int32.le_toInt a
  omega
theorem ddiv_nn (a b : Int32) (hb : ¬ b = 0) : FP.Core.val64 (FP.ddiv (FP.i2d a) (FP.i2d b)) ≠ .nan := by
  show FP.Core.val64 (FP.Core.ddiv (FP.Core.i2d a) (FP.Core.i2d b)) ≠ .nan
  rw [FP.Core.val64_ddiv, FP.Core.val64_i2d, FP.Core.val64_i2d]
  refine quot_nn (FP.Core.whole_round FP.Core.good_b64 FP.Core.wide_b64 (Nat.le_trans (i32_abs a) (by decide)) (FP.Core.whole_ofInt _)) (FP.Core.whole_round FP.Core.good_b64 FP.Core.wide_b64 (Nat.le_trans (i32_abs b) (by decide)) (FP.Core.whole_ofInt _)) ?_
  intro h
  exact hb (Int32.toInt_inj.mp h)
theorem ddiv_ok (a b : Int32) (hb : ¬ b = 0) : vf_n64 (FP.ddiv (FP.i2d a) (FP.i2d b)) := n64 (ddiv_nn a b hb)
theorem fdiv_nn {a b : Int32} (ha : ∃ n, n < 2 ^ 20 ∧ a = nI n) (hb : ∃ n, n < 2 ^ 20 ∧ b = nI n) (h0 : ¬ b = 0) : FP.Core.val32 (FP.fdiv (FP.i2f a) (FP.i2f b)) ≠ .nan := by
  obtain ⟨n, hn, rfl⟩ := ha
  obtain ⟨k, hk, rfl⟩ := hb
  show FP.Core.val32 (FP.Core.fdiv (FP.Core.i2f (nI n)) (FP.Core.i2f (nI k))) ≠ .nan
  rw [FP.Core.val32_fdiv, FP.Core.val32_i2f, FP.Core.val32_i2f]
  have b24 : (2 : Nat) ^ 20 ≤ 2 ^ FP.Core.b32.p := by decide
  refine quot_nn (FP.Core.whole_round FP.Core.good_b32 FP.Core.wide_b32 (by rw [nI_toInt (by omega)]; omega) (FP.Core.whole_ofInt _)) (FP.Core.whole_round FP.Core.good_b32 FP.Core.wide_b32 (by rw [nI_toInt (by omega)]; omega) (FP.Core.whole_ofInt _)) ?_
  intro h
  exact h0 (Int32.toInt_inj.mp h)
theorem fdiv_ok {a b : Int32} (ha : ∃ n, n < 2 ^ 20 ∧ a = nI n) (hb : ∃ n, n < 2 ^ 20 ∧ b = nI n) (h0 : ¬ b = 0) : vf_n32 (FP.fdiv (FP.i2f a) (FP.i2f b)) := n32 (fdiv_nn ha hb h0)
theorem f2d_nn {x : UInt32} (h : FP.Core.val32 x ≠ .nan) : FP.Core.val64 (FP.f2d x) ≠ .nan := by
  have h1 : ¬ FP.Core.fIsNaN x = true := fun e => h ((FP.Core.fIsNaN_iff x).mp e)
  show FP.Core.val64 (if FP.Core.fIsNaN x then _ else FP.Core.f2d x) ≠ .nan
  rw [if_neg h1, FP.Core.val64_f2d]
  cases h2 : FP.Core.val32 x with
  | nan => exact absurd h2 h
  | inf s => intro e; cases e
  | fin s c q => exact roundRatio_nn _ _ _ _ _
theorem f2d_ok {x : UInt32} (h : FP.Core.val32 x ≠ .nan) : vf_n64 (FP.f2d x) := n64 (f2d_nn h)
theorem cntI_nat {p : Nat → Bool} : ∀ (n i a : Nat), ∃ m, m ≤ n ∧ cntI p n i (nI a) = nI (a + m)
  | 0, _, a => ⟨0, Nat.le_refl _, rfl⟩
  | n + 1, i, a => by
    show ∃ m, m ≤ n + 1 ∧ cntI p n (i + 1) (if p i then nI a + 1 else nI a) = nI (a + m)
    split
    · obtain ⟨m, h1, h2⟩ := cntI_nat n (i + 1) (a + 1)
      refine ⟨m + 1, by omega, ?_⟩
      rw [nI_1, h2]
      congr 1; omega
    · obtain ⟨m, h1, h2⟩ := cntI_nat n (i + 1) a
      exact ⟨m, by omega, h2⟩
theorem cntI_0 {p : Nat → Bool} (n i : Nat) : ∃ m, m ≤ n ∧ cntI p n i 0 = nI m := by
  obtain ⟨m, h1, h2⟩ := cntI_nat (p := p) n i 0
  exact ⟨m, h1, by rw [Nat.zero_add] at h2; exact h2⟩
def meanI (sum n : Int32) : UInt64 := if n = 0 then FP.dconst0 else FP.ddiv (FP.i2d sum) (FP.i2d n)
def shareI (ans done : Int32) : UInt32 := if done = 0 then FP.fconst0 else FP.fdiv (FP.i2f ans) (FP.i2f done)
theorem mean_nn (a b : Int32) : FP.Core.val64 (meanI a b) ≠ .nan := by
  unfold meanI
  split
  · show FP.Core.val64 FP.Core.dconst0 ≠ .nan
    decide +kernel
  · exact ddiv_nn _ _ (by assumption)
theorem share_nn {a b : Int32} (ha : ∃ n, n < 2 ^ 20 ∧ a = nI n) (hb : ∃ n, n < 2 ^ 20 ∧ b = nI n) : FP.Core.val32 (shareI a b) ≠ .nan := by
  unfold shareI
  split
  · show FP.Core.val32 FP.Core.fconst0 ≠ .nan
    decide +kernel
  · exact fdiv_nn ha hb (by assumption)
section DF
variable {p : Program} {l : Launch} {e : Env} {R : Room} {s : State} {m : MethodId} {args : Array Value} {below : List Frame} {meth : Method} {c : Code} {H : Heap} {locs : List Loc} {cells slots : Nat} {Q : State → Prop} {pc : Nat} {ls : Array Slot} {rest : List Value}
theorem endD {v r : UInt64} (hv : v = r) (k : W p l e R s m args below meth c H locs cells slots Q (F0 m pc ls (.double r :: rest))) : W p l e R s m args below meth c H locs cells slots Q (F0 m pc ls (.double v :: rest)) := hv ▸ k
theorem endF {v r : UInt32} (hv : v = r) (k : W p l e R s m args below meth c H locs cells slots Q (F0 m pc ls (.float r :: rest))) : W p l e R s m args below meth c H locs cells slots Q (F0 m pc ls (.float v :: rest)) := hv ▸ k
end DF
section MD
variable {l : Launch} {y : MethodName} {ws ws' : List Cond} {rm : Room} {as : List Value} {D : va_G} {T : Nat → ClassId} {w w1 : va_W} {cc : ByteArray} {maxL sz : Nat}
theorem metSd {r : UInt64} {mc ms : Nat} (hy : plainName y.cls = true) (hw : ws = Cond.code y cc maxL (some .double) :: ws') (hlen : (lg_sl as).length ≤ maxL)
    (body : ∀ (p : Program) (e : Env) (s : State) (m : MethodId) (args : Array Value) (below : List Frame) (meth : Method) (c : Code) (Q : State → Prop) (ls : Array Slot) (A : Nat → Prop), p.tables.exec = Jvm.exec → c.code = cc → c.maxLocals = maxL → s.vm.findClass y.cls = some m.cls → (∀ q ∈ ws, q.before args s = true) → va_P D vwCl w s.heap → va_K D vwCl (tyL T) s → va_D A w → (∀ q : Nat, s.heap.size ≤ q → A q) → va_S A s.heap s.heap [] → lv_has ls maxL (lv_args 0 as) →
      (∀ (H : Heap) (locs : List Loc) (ls : Array Slot) (pc : Nat), decode cc pc = .ok (.dreturn, 1) → va_P D vwCl w1 H → va_D A w1 → va_S A s.heap H locs → W p l e rm s m args below meth c H locs mc ms Q (F0 m pc ls [.double r])) →
      W p l e rm s m args below meth c s.heap [] 0 0 Q (F0 m 0 ls [])) : Met l y ws rm (va_Pc as (PS D T w sz)) (va_Qd (fun r' (_ : Unit) => r' = r) (fun _ t => QS D T (va_A w sz) w1 t) (va_A w sz)) mc ms (va_A w sz) := by
  refine Met.ofW (cc := cc) (maxL := maxL) (ret := some .double) hy hw ?_
  intro p e s m args below meth c s₁ B hml hv
  obtain ⟨rfl, hsz, hP, hK, hD0⟩ := hv
  subst hsz
  have hts := atoms_spec (ws := ws) B.pre
  have hown : s.vm.findClass y.cls = some m.cls := findClass_of_methodNamed B.named
  have hlocks := B.notSynchronized
  have hl := lv_entry as (n := maxL) hlen
  rw [lg_entry_eq]
  refine body p e s m _ below meth c _ _ (va_A w s.heap.size) B.exec B.bytes hml hown hts hP hK (hD0.self (sz := s.heap.size)) (fun q h => Or.inr h) va_S.rf hl (fun H locs ls pc hd hP1 hD1 hS => ?_)
  exact W.dret B.exec B.bytes B.returns (fun t ht hW => ⟨⟨r, (), rfl, rfl, by rw [ht]; exact hP1, va_K.moved hW.alike hK, hD1⟩, hS.F ht⟩) hS.2.2 hd
theorem metSf {r : UInt32} {mc ms : Nat} (hy : plainName y.cls = true) (hw : ws = Cond.code y cc maxL (some .float) :: ws') (hlen : (lg_sl as).length ≤ maxL)
    (body : ∀ (p : Program) (e : Env) (s : State) (m : MethodId) (args : Array Value) (below : List Frame) (meth : Method) (c : Code) (Q : State → Prop) (ls : Array Slot) (A : Nat → Prop), p.tables.exec = Jvm.exec → c.code = cc → c.maxLocals = maxL → s.vm.findClass y.cls = some m.cls → (∀ q ∈ ws, q.before args s = true) → va_P D vwCl w s.heap → va_K D vwCl (tyL T) s → va_D A w → (∀ q : Nat, s.heap.size ≤ q → A q) → va_S A s.heap s.heap [] → lv_has ls maxL (lv_args 0 as) →
      (∀ (H : Heap) (locs : List Loc) (ls : Array Slot) (pc : Nat), decode cc pc = .ok (.freturn, 1) → va_P D vwCl w1 H → va_D A w1 → va_S A s.heap H locs → W p l e rm s m args below meth c H locs mc ms Q (F0 m pc ls [.float r])) →
      W p l e rm s m args below meth c s.heap [] 0 0 Q (F0 m 0 ls [])) : Met l y ws rm (va_Pc as (PS D T w sz)) (va_Qf (fun r' (_ : Unit) => r' = r) (fun _ t => QS D T (va_A w sz) w1 t) (va_A w sz)) mc ms (va_A w sz) := by
  refine Met.ofW (cc := cc) (maxL := maxL) (ret := some .float) hy hw ?_
  intro p e s m args below meth c s₁ B hml hv
  obtain ⟨rfl, hsz, hP, hK, hD0⟩ := hv
  subst hsz
  have hts := atoms_spec (ws := ws) B.pre
  have hown : s.vm.findClass y.cls = some m.cls := findClass_of_methodNamed B.named
  have hlocks := B.notSynchronized
  have hl := lv_entry as (n := maxL) hlen
  rw [lg_entry_eq]
  refine body p e s m _ below meth c _ _ (va_A w s.heap.size) B.exec B.bytes hml hown hts hP hK (hD0.self (sz := s.heap.size)) (fun q h => Or.inr h) va_S.rf hl (fun H locs ls pc hd hP1 hD1 hS => ?_)
  exact W.fret B.exec B.bytes B.returns (fun t ht hW => ⟨⟨r, (), rfl, rfl, by rw [ht]; exact hP1, va_K.moved hW.alike hK, hD1⟩, hS.F ht⟩) hS.2.2 hd
end MD
theorem cntC_nat (o : Nat → Nat → Int32) (z : Int32) {N : Nat} (hN : N ≤ 24) : ∃ n, n < 2 ^ 20 ∧ cntC o z N = nI n := by
  obtain ⟨m, h1, h2⟩ := cntI_0 (p := fun k => decide (o 8 k = z)) N 0
  exact ⟨m, by omega, h2⟩
theorem doneC_nat (o : Nat → Nat → Int32) {N : Nat} (hN : N ≤ 24) : ∃ n, n < 2 ^ 20 ∧ nI N - cntC o 0 N = nI n := by
  obtain ⟨m, h1, h2⟩ := cntI_0 (p := fun k => decide (o 8 k = 0)) N 0
  exact ⟨N - m, by omega, by rw [show cntC o 0 N = nI m from h2]; exact pk_sub (by omega)⟩
