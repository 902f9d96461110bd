/-! the law's calls through its two short forms; what each question answers -/
theorem kE_none {r : Int32} : kE r none = r := rfl
theorem orE_n {k : Option String} : orE none k = k := rfl
theorem orE_nn : orE none none = none := rfl
theorem kE_opt (b : Option Nat) : kE (b.elim 0 nI) (chkB b.isSome "java/util/NoSuchElementException") = b.elim (-101) nI := by cases b <;> rfl
theorem kE_if {p : Prop} {r : Int32} {h : Decidable p} : kE r (chkB (!decide p) "java/util/NoSuchElementException") = if p then -101 else r := by
  by_cases hp : p
  · rw [if_pos hp, decide_eq_true hp]; rfl
  · rw [if_neg hp, decide_eq_false hp]; rfl
theorem rg_okN {n a b : Nat} (h1 : a ≤ n) (h2 : n ≤ b) (hb : b < 2 ^ 31) : rg (nI n) (nI a) (nI b) = true := by
  simp only [rg, Bool.and_eq_true, decide_eq_true_eq]
  exact ⟨nI_le h1 (by omega), nI_le h2 hb⟩
theorem rg_2000 {n : Nat} (h : n ≤ 2000) : rg (nI n) 0 2000 = true := rg_okN (a := 0) (b := 2000) (Nat.zero_le _) h (by decide)
theorem rg_3 {q : Nat} (h : q < 4) : rg (nI q) 0 3 = true := rg_okN (a := 0) (b := 3) (Nat.zero_le _) (by omega) (by decide)
theorem rg_99 {q : Nat} (h : q ≤ 99) : rg (nI q) 0 99 = true := rg_okN (a := 0) (b := 99) (Nat.zero_le _) h (by decide)
theorem inN_ok {j n : Nat} (h : j < n) (hn : n < 2 ^ 31) : inN (nI j) n = true := by
  simp only [inN, Bool.and_eq_true, decide_eq_true_eq]
  exact ⟨nI_pos' (by omega), nI_lt h hn⟩
theorem inN_no (n : Nat) : inN (nI n) n = false := by
  simp only [inN, Bool.and_eq_false_iff, decide_eq_false_iff_not]
  exact Or.inr (fun h => absurd h (by simp))
theorem ask_eq {l : Launch} {y : MethodName} {ws : List Cond} {rm : Room} {P : Array Value → State → Prop} {B : Unit → State → Prop} {A : Nat → Prop} {mc ms : Nat} {X Y : Int32} (e : X = Y) (h : Met l y ws rm P (va_Qi (fun r9 (_ : Unit) => r9 = X) B A) mc ms A) : Met l y ws rm P (va_Qi (fun r9 (_ : Unit) => r9 = Y) B A) mc ms A := e ▸ h
section LCX
variable {p : Program} {l : Launch} {e : Env} {R : Room} {s : State} {m : MethodId} {args : Array Value} {below : List Frame} {meth : Method} {c : Code} {H H0 : Heap} {locs : List Loc} {cells slots : Nat} {Q : State → Prop}
  {Ts wsy : List Cond} {cc bytes : ByteArray} {nL maxL index n mc ms pc : Nat} {own : String} {y : MethodName} {ret : Option FieldType} {rm : Room} {As rest st : List Value} {ls : Array Slot} {hh : List (Nat × Nat × Nat × Nat)}
  {D : va_G} {T : Nat → ClassId} {ws wc : va_W} {A0 : Nat → Prop} {aK aV : Nat → Nat}
/-- the law's call itself, which has handlers -/
theorem lcXi {S : Type} {px : Int32 → S → Prop} {ws1 wc1 : S → va_W} (S0 : CallFix p m c cc nL s args Ts own) (hM : Met l y wsy rm (va_Pc As (LWP D T aK aV wc H.size)) (va_Qi px (fun u t => QS D T (va_A wc H.size) (wc1 u) t) (va_A wc H.size)) mc ms (va_A wc H.size)) (cw : vx_CSW R s args own index y bytes maxL ret hh wsy rm mc ms n)
    (F : ∀ u, Foc ws wc (ws1 u) (wc1 u)) (F0' : Foc ws wc ws wc) (hC : CX aK aV A0 s H0) (hNC : NCX s) (hK : va_K D vwCl (tyL T) s) (hP : va_P D vwCl ws H) (hD : va_D A0 ws) (hS : va_S A0 H0 H locs) (hA : ∀ q, H0.size ≤ q → A0 q)
    (hn : As.length = n) (hsize : ls.size = nL) (hst : st = As.reverse ++ rest) (hW : (rest.map fun v => v.category).sum ≤ 8) (hcs : cells + mc ≤ R.cells ∧ slots + ms ≤ R.slots) (hdg : decode cc pc = .ok (.invokestatic index, 3))
    (kk : ∀ (r : Int32) (u : S) (H1 : Heap) (locs1 : List Loc), px r u → va_P D vwCl (ws1 u) H1 → va_D A0 (ws1 u) → va_S A0 H0 H1 locs1 → W p l e R s m args below meth c H1 locs1 (cells + mc) (slots + ms) Q (F0 m (pc + 3) ls (.int r :: rest))) : W p l e R s m args below meth c H locs cells slots Q (F0 m pc ls st) := by
  have hPc := F0'.subP hP
  have hDc := F0'.subD hD
  have hFc := F0'.free hD hS hA
  refine va_calli (vx_runSW S0 hM cw ⟨LWP.blind _ _ _ _ _ _ _, fun U hU hW => ⟨rfl, ⟨⟨by rw [hU], by rw [hU]; exact hPc, va_K.moved hW.alike hK, hDc.weaken (fun _ _ _ _ => trivial)⟩, hC.call hS hFc hU hW⟩, hNC.moved hW.alike⟩⟩ rfl hn hsize hst (lv_room hW) hdg hcs) hS (fun q _ h => hFc q h) hFc (fun r1 u t H1 locs1 ht hvm hw hB hz1 hk1 hS1 => ?_)
  obtain ⟨hP1, hK1, hD1⟩ := hB
  rw [ht] at hP1
  obtain ⟨g1, g2⟩ := (F u).join hP hD hk1 hFc hP1 hD1
  exact kk r1 u H1 locs1 hw g1 g2 hS1
end LCX
section VIA
variable {l : Launch} {D : va_G} {T : Nat → ClassId} {aK aV : Nat → Nat} {w : va_W} {S : Type} {px : Int32 → S → Prop} {wu : S → va_W} {b : Nat} {k a a2 : Int32}
theorem via3 (hM : ∀ sz, Met l yL_call wsL_call ({ frames := 10, cells := 4, slots := 24, locals := 215 } : Room) (va_Pc [.ref b, .int k, .int a, .int 0, .int 0, .int 0, .int 0] (LWP D T aK aV w sz)) (va_Qi px (fun u t => QS D T (va_A w sz) (wu u) t) (va_A w sz)) 4 24 (va_A w sz)) (sz : Nat) : Met l yL_call__ wsL_call__ ({ frames := 11, cells := 4, slots := 24, locals := 242 } : Room) (va_Pc [.ref b, .int k, .int a] (LWP D T aK aV w sz)) (va_Qi px (fun u t => QS D T (va_A w sz) (wu u) t) (va_A w sz)) 4 24 (va_A w sz) := by
  refine metUi (cc := cL_call__) (maxL := 3) (ty := .int) (by decide) rfl (fun _ _ _ => rfl) (Nat.le_of_ble_eq_true rfl) ?_
  intro p e s m args below meth c Q ls A hx hb hml hown hts hNC hC hP hK hD hA hS hl hret
  have hown : s.vm.findClass RL = some m.cls := hown
  have hl : lv_has ls 3 [(0, .ref b), (1, .int k), (2, .int a)] := hl
  refine lv_aload_n hx hb dL_call___0 rfl (lv_at hl 0 rfl) ?_
  refine lv_iload_n hx hb dL_call___1 rfl (lv_at hl 1 rfl) ?_
  refine lv_iload_n hx hb dL_call___2 rfl (lv_at hl 2 rfl) ?_
  refine lv_iconst (v := 0) hx hb dL_call___3 (by decide) ?_
  refine lv_iconst (v := 0) hx hb dL_call___4 (by decide) ?_
  refine lv_iconst (v := 0) hx hb dL_call___5 (by decide) ?_
  refine lv_iconst (v := 0) hx hb dL_call___6 (by decide) ?_
  refine lcXi (ws1 := wu) (wc1 := wu) (As := [.ref b, .int k, .int a, .int 0, .int 0, .int 0, .int 0]) (rest := []) ⟨hx, hb, hml, hown, hts⟩ (hM _) (vx_cwSW 7 hts (gC gl_L_call) rfl rfl rfl (by decide +kernel) ⟨Nat.le_of_ble_eq_true rfl, Nat.le_of_ble_eq_true rfl⟩) (fun u => Foc.rfl _ _) (Foc.rfl _ _) hC hNC hK hP hD hS hA rfl hl.1 rfl (Nat.le_of_ble_eq_true rfl) ⟨Nat.le_of_ble_eq_true rfl, Nat.le_of_ble_eq_true rfl⟩ dL_call___7 (fun r u H locs hr hP hD hS => ?_)
  exact hret _ _ _ _ _ _ r u dL_call___10 hr hP hD hS (by decide) (by decide)
theorem via4 (hM : ∀ sz, Met l yL_call wsL_call ({ frames := 10, cells := 4, slots := 24, locals := 215 } : Room) (va_Pc [.ref b, .int k, .int a, .int a2, .int 0, .int 0, .int 0] (LWP D T aK aV w sz)) (va_Qi px (fun u t => QS D T (va_A w sz) (wu u) t) (va_A w sz)) 4 24 (va_A w sz)) (sz : Nat) : Met l yL_call_ wsL_call_ ({ frames := 11, cells := 4, slots := 24, locals := 242 } : Room) (va_Pc [.ref b, .int k, .int a, .int a2] (LWP D T aK aV w sz)) (va_Qi px (fun u t => QS D T (va_A w sz) (wu u) t) (va_A w sz)) 4 24 (va_A w sz) := by
  refine metUi (cc := cL_call_) (maxL := 4) (ty := .int) (by decide) rfl (fun _ _ _ => rfl) (Nat.le_of_ble_eq_true rfl) ?_
  intro p e s m args below meth c Q ls A hx hb hml hown hts hNC hC hP hK hD hA hS hl hret
  have hown : s.vm.findClass RL = some m.cls := hown
  have hl : lv_has ls 4 [(0, .ref b), (1, .int k), (2, .int a), (3, .int a2)] := hl
  refine lv_aload_n hx hb dL_call__0 rfl (lv_at hl 0 rfl) ?_
  refine lv_iload_n hx hb dL_call__1 rfl (lv_at hl 1 rfl) ?_
  refine lv_iload_n hx hb dL_call__2 rfl (lv_at hl 2 rfl) ?_
  refine lv_iload_n hx hb dL_call__3 rfl (lv_at hl 3 rfl) ?_
  refine lv_iconst (v := 0) hx hb dL_call__4 (by decide) ?_
  refine lv_iconst (v := 0) hx hb dL_call__5 (by decide) ?_
  refine lv_iconst (v := 0) hx hb dL_call__6 (by decide) ?_
  refine lcXi (ws1 := wu) (wc1 := wu) (As := [.ref b, .int k, .int a, .int a2, .int 0, .int 0, .int 0]) (rest := []) ⟨hx, hb, hml, hown, hts⟩ (hM _) (vx_cwSW 7 hts (gC gl_L_call) rfl rfl rfl (by decide +kernel) ⟨Nat.le_of_ble_eq_true rfl, Nat.le_of_ble_eq_true rfl⟩) (fun u => Foc.rfl _ _) (Foc.rfl _ _) hC hNC hK hP hD hS hA rfl hl.1 rfl (Nat.le_of_ble_eq_true rfl) ⟨Nat.le_of_ble_eq_true rfl, Nat.le_of_ble_eq_true rfl⟩ dL_call__7 (fun r u H locs hr hP hD hS => ?_)
  exact hret _ _ _ _ _ _ r u dL_call__10 hr hP hD hS (by decide) (by decide)
end VIA
set_option maxHeartbeats 1000000 in
theorem c_ask_lightOf (l : Launch) (hl9 : l.stackTraces = false) (D : va_G) (T : Nat → ClassId) (aK aV : Nat → Nat) (v : Nat → Nat) (B : Nat → Nat → Nat) (O : Nat → Nat → Nat → Int32) (g : CSt) (ln un nx pl : Nat) (f0 f1 f2 : Nat → Int32) (n : Nat) (N K C nt : Nat) (hOI : OI (O 0) N K C nt) (hn2 : n ≤ 2000) (sz : Nat) : Met l yL_call__ wsL_call__ ({ frames := 11, cells := 4, slots := 24, locals := 242 } : Room) (va_Pc [.ref (v 0), .int (16), .int (nI n)] (LWP D T aK aV (WIN T v B O g ln un nx pl f0 f1 f2) sz)) (va_Qi (fun r9 (_ : Unit) => r9 = (nI (lightN n))) (fun _ t => QS D T (va_A (WIN T v B O g ln un nx pl f0 f1 f2) sz) (WIN T v B O g ln un nx pl f0 f1 f2) t) (va_A (WIN T v B O g ln un nx pl f0 f1 f2) sz)) 4 24 (va_A (WIN T v B O g ln un nx pl f0 f1 f2) sz) := by
  refine ask_eq ?_ (via3 (fun sz => c_call_16 l hl9 D T aK aV v B O g ln un nx pl f0 f1 f2 (nI n) (0) (0) (0) (0) N K C nt hOI sz) sz)
  rw [chkB_n (rg_2000 hn2), kE_none, nI_clamp (by omega)]

set_option maxHeartbeats 1000000 in
theorem c_ask_tideOf (l : Launch) (hl9 : l.stackTraces = false) (D : va_G) (T : Nat → ClassId) (aK aV : Nat → Nat) (v : Nat → Nat) (B : Nat → Nat → Nat) (O : Nat → Nat → Nat → Int32) (g : CSt) (ln un nx pl : Nat) (f0 f1 f2 : Nat → Int32) (n : Nat) (N K C nt : Nat) (hOI : OI (O 0) N K C nt) (hn2 : n ≤ 2000) (sz : Nat) : Met l yL_call__ wsL_call__ ({ frames := 11, cells := 4, slots := 24, locals := 242 } : Room) (va_Pc [.ref (v 0), .int (17), .int (nI n)] (LWP D T aK aV (WIN T v B O g ln un nx pl f0 f1 f2) sz)) (va_Qi (fun r9 (_ : Unit) => r9 = (nI (tideN n))) (fun _ t => QS D T (va_A (WIN T v B O g ln un nx pl f0 f1 f2) sz) (WIN T v B O g ln un nx pl f0 f1 f2) t) (va_A (WIN T v B O g ln un nx pl f0 f1 f2) sz)) 4 24 (va_A (WIN T v B O g ln un nx pl f0 f1 f2) sz) := by
  refine ask_eq ?_ (via3 (fun sz => c_call_17 l hl9 D T aK aV v B O g ln un nx pl f0 f1 f2 (nI n) (0) (0) (0) (0) N K C nt hOI sz) sz)
  rw [chkB_n (rg_2000 hn2), kE_none, nI_clamp (by omega)]

set_option maxHeartbeats 1000000 in
theorem c_ask_cloudOf (l : Launch) (hl9 : l.stackTraces = false) (D : va_G) (T : Nat → ClassId) (aK aV : Nat → Nat) (v : Nat → Nat) (B : Nat → Nat → Nat) (O : Nat → Nat → Nat → Int32) (g : CSt) (ln un nx pl : Nat) (f0 f1 f2 : Nat → Int32) (n : Nat) (N K C nt : Nat) (hOI : OI (O 0) N K C nt) (hn2 : n ≤ 2000) (sz : Nat) : Met l yL_call__ wsL_call__ ({ frames := 11, cells := 4, slots := 24, locals := 242 } : Room) (va_Pc [.ref (v 0), .int (18), .int (nI n)] (LWP D T aK aV (WIN T v B O g ln un nx pl f0 f1 f2) sz)) (va_Qi (fun r9 (_ : Unit) => r9 = ((O 0) 1 (n % C))) (fun _ t => QS D T (va_A (WIN T v B O g ln un nx pl f0 f1 f2) sz) (WIN T v B O g ln un nx pl f0 f1 f2) t) (va_A (WIN T v B O g ln un nx pl f0 f1 f2) sz)) 4 24 (va_A (WIN T v B O g ln un nx pl f0 f1 f2) sz) := by
  refine ask_eq ?_ (via3 (fun sz => c_call_18 l hl9 D T aK aV v B O g ln un nx pl f0 f1 f2 (nI n) (0) (0) (0) (0) N K C nt hOI sz) sz)
  rw [chkB_n (rg_2000 hn2), kE_none, nI_clamp (by omega)]

set_option maxHeartbeats 1000000 in
theorem c_ask_visibleLight (l : Launch) (hl9 : l.stackTraces = false) (D : va_G) (T : Nat → ClassId) (aK aV : Nat → Nat) (v : Nat → Nat) (B : Nat → Nat → Nat) (O : Nat → Nat → Nat → Int32) (g : CSt) (ln un nx pl : Nat) (f0 f1 f2 : Nat → Int32) (n : Nat) (N K C nt : Nat) (hOI : OI (O 0) N K C nt) (hn2 : n ≤ 2000) (sz : Nat) : Met l yL_call__ wsL_call__ ({ frames := 11, cells := 4, slots := 24, locals := 242 } : Room) (va_Pc [.ref (v 0), .int (19), .int (nI n)] (LWP D T aK aV (WIN T v B O g ln un nx pl f0 f1 f2) sz)) (va_Qi (fun r9 (_ : Unit) => r9 = (visI n ((O 0) 1 (n % C)))) (fun _ t => QS D T (va_A (WIN T v B O g ln un nx pl f0 f1 f2) sz) (WIN T v B O g ln un nx pl f0 f1 f2) t) (va_A (WIN T v B O g ln un nx pl f0 f1 f2) sz)) 4 24 (va_A (WIN T v B O g ln un nx pl f0 f1 f2) sz) := by
  refine ask_eq ?_ (via3 (fun sz => c_call_19 l hl9 D T aK aV v B O g ln un nx pl f0 f1 f2 (nI n) (0) (0) (0) (0) N K C nt hOI sz) sz)
  rw [chkB_n (rg_2000 hn2), kE_none, nI_clamp (by omega)]

set_option maxHeartbeats 1000000 in
theorem c_ask_isJustified (l : Launch) (hl9 : l.stackTraces = false) (D : va_G) (T : Nat → ClassId) (aK aV : Nat → Nat) (v : Nat → Nat) (B : Nat → Nat → Nat) (O : Nat → Nat → Nat → Int32) (g : CSt) (ln un nx pl : Nat) (f0 f1 f2 : Nat → Int32) (q n : Nat) (N K C nt : Nat) (hOI : OI (O 0) N K C nt) (hq : q < 4) (hn2 : n ≤ 2000) (sz : Nat) : Met l yL_call_ wsL_call_ ({ frames := 11, cells := 4, slots := 24, locals := 242 } : Room) (va_Pc [.ref (v 0), .int (20), .int (nI q), .int (nI n)] (LWP D T aK aV (WIN T v B O g ln un nx pl f0 f1 f2) sz)) (va_Qi (fun r9 (_ : Unit) => r9 = (bI (justB q ((O 0) 0 1) ((O 0) 0 2) ((O 0) 0 3) n ((O 0) 1 (n % C))))) (fun _ t => QS D T (va_A (WIN T v B O g ln un nx pl f0 f1 f2) sz) (WIN T v B O g ln un nx pl f0 f1 f2) t) (va_A (WIN T v B O g ln un nx pl f0 f1 f2) sz)) 4 24 (va_A (WIN T v B O g ln un nx pl f0 f1 f2) sz) := by
  refine ask_eq ?_ (via4 (fun sz => c_call_20 l hl9 D T aK aV v B O g ln un nx pl f0 f1 f2 (nI q) (nI n) (0) (0) (0) N K C nt hOI sz) sz)
  rw [chkB_n (rg_3 hq), chkB_n (rg_2000 hn2), orE_nn, kE_none, nI_clamp (n := q) (by omega), nI_clamp (n := n) (by omega)]

set_option maxHeartbeats 1000000 in
theorem c_ask_nextJustified (l : Launch) (hl9 : l.stackTraces = false) (D : va_G) (T : Nat → ClassId) (aK aV : Nat → Nat) (v : Nat → Nat) (B : Nat → Nat → Nat) (O : Nat → Nat → Nat → Int32) (g : CSt) (ln un nx pl : Nat) (f0 f1 f2 : Nat → Int32) (q : Nat) (N K C nt : Nat) (hOI : OI (O 0) N K C nt) (hq : q < 4) (sz : Nat) : Met l yL_call__ wsL_call__ ({ frames := 11, cells := 4, slots := 24, locals := 242 } : Room) (va_Pc [.ref (v 0), .int (21), .int (nI q)] (LWP D T aK aV (WIN T v B O g ln un nx pl f0 f1 f2) sz)) (va_Qi (fun r9 (_ : Unit) => r9 = ((nextC (O 0) C nt q).elim (-101) nI)) (fun _ t => QS D T (va_A (WIN T v B O g ln un nx pl f0 f1 f2) sz) (WIN T v B O g ln un nx pl f0 f1 f2) t) (va_A (WIN T v B O g ln un nx pl f0 f1 f2) sz)) 4 24 (va_A (WIN T v B O g ln un nx pl f0 f1 f2) sz) := by
  refine ask_eq ?_ (via3 (fun sz => c_call_21 l hl9 D T aK aV v B O g ln un nx pl f0 f1 f2 (nI q) (0) (0) (0) (0) N K C nt hOI sz) sz)
  rw [chkB_n (rg_3 hq), orE_n, nI_clamp (by omega)]; exact kE_opt _

set_option maxHeartbeats 1000000 in
theorem c_ask_justifiedNights (l : Launch) (hl9 : l.stackTraces = false) (D : va_G) (T : Nat → ClassId) (aK aV : Nat → Nat) (v : Nat → Nat) (B : Nat → Nat → Nat) (O : Nat → Nat → Nat → Int32) (g : CSt) (ln un nx pl : Nat) (f0 f1 f2 : Nat → Int32) (q : Nat) (N K C nt : Nat) (hOI : OI (O 0) N K C nt) (hq : q < 4) (sz : Nat) : Met l yL_call__ wsL_call__ ({ frames := 11, cells := 4, slots := 24, locals := 242 } : Room) (va_Pc [.ref (v 0), .int (22), .int (nI q)] (LWP D T aK aV (WIN T v B O g ln un nx pl f0 f1 f2) sz)) (va_Qi (fun r9 (_ : Unit) => r9 = (jcC (O 0) C nt q)) (fun _ t => QS D T (va_A (WIN T v B O g ln un nx pl f0 f1 f2) sz) (WIN T v B O g ln un nx pl f0 f1 f2) t) (va_A (WIN T v B O g ln un nx pl f0 f1 f2) sz)) 4 24 (va_A (WIN T v B O g ln un nx pl f0 f1 f2) sz) := by
  refine ask_eq ?_ (via3 (fun sz => c_call_22 l hl9 D T aK aV v B O g ln un nx pl f0 f1 f2 (nI q) (0) (0) (0) (0) N K C nt hOI sz) sz)
  rw [chkB_n (rg_3 hq), kE_none, nI_clamp (by omega)]

set_option maxHeartbeats 1000000 in
theorem c_ask_personOf (l : Launch) (hl9 : l.stackTraces = false) (D : va_G) (T : Nat → ClassId) (aK aV : Nat → Nat) (v : Nat → Nat) (B : Nat → Nat → Nat) (O : Nat → Nat → Nat → Int32) (g : CSt) (ln un nx pl : Nat) (f0 f1 f2 : Nat → Int32) (j : Nat) (N K C nt : Nat) (hOI : OI (O 0) N K C nt) (hj : j < N) (sz : Nat) : Met l yL_call__ wsL_call__ ({ frames := 11, cells := 4, slots := 24, locals := 242 } : Room) (va_Pc [.ref (v 0), .int (23), .int (nI j)] (LWP D T aK aV (WIN T v B O g ln un nx pl f0 f1 f2) sz)) (va_Qi (fun r9 (_ : Unit) => r9 = ((O 0) 4 j)) (fun _ t => QS D T (va_A (WIN T v B O g ln un nx pl f0 f1 f2) sz) (WIN T v B O g ln un nx pl f0 f1 f2) t) (va_A (WIN T v B O g ln un nx pl f0 f1 f2) sz)) 4 24 (va_A (WIN T v B O g ln un nx pl f0 f1 f2) sz) := by
  refine ask_eq ?_ (via3 (fun sz => c_call_23 l hl9 D T aK aV v B O g ln un nx pl f0 f1 f2 (nI j) (0) (0) (0) (0) N K C nt hOI sz) sz)
  rw [chkB_n (inN_ok hj (by have := hOI.2.1; omega)), kE_none, nI_clamp (by have := hOI.2.1; omega)]

set_option maxHeartbeats 1000000 in
theorem c_ask_sortOf (l : Launch) (hl9 : l.stackTraces = false) (D : va_G) (T : Nat → ClassId) (aK aV : Nat → Nat) (v : Nat → Nat) (B : Nat → Nat → Nat) (O : Nat → Nat → Nat → Int32) (g : CSt) (ln un nx pl : Nat) (f0 f1 f2 : Nat → Int32) (j : Nat) (N K C nt : Nat) (hOI : OI (O 0) N K C nt) (hj : j < N) (sz : Nat) : Met l yL_call__ wsL_call__ ({ frames := 11, cells := 4, slots := 24, locals := 242 } : Room) (va_Pc [.ref (v 0), .int (24), .int (nI j)] (LWP D T aK aV (WIN T v B O g ln un nx pl f0 f1 f2) sz)) (va_Qi (fun r9 (_ : Unit) => r9 = ((O 0) 5 j)) (fun _ t => QS D T (va_A (WIN T v B O g ln un nx pl f0 f1 f2) sz) (WIN T v B O g ln un nx pl f0 f1 f2) t) (va_A (WIN T v B O g ln un nx pl f0 f1 f2) sz)) 4 24 (va_A (WIN T v B O g ln un nx pl f0 f1 f2) sz) := by
  refine ask_eq ?_ (via3 (fun sz => c_call_24 l hl9 D T aK aV v B O g ln un nx pl f0 f1 f2 (nI j) (0) (0) (0) (0) N K C nt hOI sz) sz)
  rw [chkB_n (inN_ok hj (by have := hOI.2.1; omega)), kE_none, nI_clamp (by have := hOI.2.1; omega)]

set_option maxHeartbeats 1000000 in
theorem c_ask_angerOf (l : Launch) (hl9 : l.stackTraces = false) (D : va_G) (T : Nat → ClassId) (aK aV : Nat → Nat) (v : Nat → Nat) (B : Nat → Nat → Nat) (O : Nat → Nat → Nat → Int32) (g : CSt) (ln un nx pl : Nat) (f0 f1 f2 : Nat → Int32) (j : Nat) (N K C nt : Nat) (hOI : OI (O 0) N K C nt) (hj : j < N) (sz : Nat) : Met l yL_call__ wsL_call__ ({ frames := 11, cells := 4, slots := 24, locals := 242 } : Room) (va_Pc [.ref (v 0), .int (25), .int (nI j)] (LWP D T aK aV (WIN T v B O g ln un nx pl f0 f1 f2) sz)) (va_Qi (fun r9 (_ : Unit) => r9 = ((O 0) 6 j)) (fun _ t => QS D T (va_A (WIN T v B O g ln un nx pl f0 f1 f2) sz) (WIN T v B O g ln un nx pl f0 f1 f2) t) (va_A (WIN T v B O g ln un nx pl f0 f1 f2) sz)) 4 24 (va_A (WIN T v B O g ln un nx pl f0 f1 f2) sz) := by
  refine ask_eq ?_ (via3 (fun sz => c_call_25 l hl9 D T aK aV v B O g ln un nx pl f0 f1 f2 (nI j) (0) (0) (0) (0) N K C nt hOI sz) sz)
  rw [chkB_n (inN_ok hj (by have := hOI.2.1; omega)), kE_none, nI_clamp (by have := hOI.2.1; omega)]

set_option maxHeartbeats 1000000 in
theorem c_ask_filedIn (l : Launch) (hl9 : l.stackTraces = false) (D : va_G) (T : Nat → ClassId) (aK aV : Nat → Nat) (v : Nat → Nat) (B : Nat → Nat → Nat) (O : Nat → Nat → Nat → Int32) (g : CSt) (ln un nx pl : Nat) (f0 f1 f2 : Nat → Int32) (j : Nat) (N K C nt : Nat) (hOI : OI (O 0) N K C nt) (hj : j < N) (sz : Nat) : Met l yL_call__ wsL_call__ ({ frames := 11, cells := 4, slots := 24, locals := 242 } : Room) (va_Pc [.ref (v 0), .int (26), .int (nI j)] (LWP D T aK aV (WIN T v B O g ln un nx pl f0 f1 f2) sz)) (va_Qi (fun r9 (_ : Unit) => r9 = ((O 0) 7 j)) (fun _ t => QS D T (va_A (WIN T v B O g ln un nx pl f0 f1 f2) sz) (WIN T v B O g ln un nx pl f0 f1 f2) t) (va_A (WIN T v B O g ln un nx pl f0 f1 f2) sz)) 4 24 (va_A (WIN T v B O g ln un nx pl f0 f1 f2) sz) := by
  refine ask_eq ?_ (via3 (fun sz => c_call_26 l hl9 D T aK aV v B O g ln un nx pl f0 f1 f2 (nI j) (0) (0) (0) (0) N K C nt hOI sz) sz)
  rw [chkB_n (inN_ok hj (by have := hOI.2.1; omega)), kE_none, nI_clamp (by have := hOI.2.1; omega)]

set_option maxHeartbeats 1000000 in
theorem c_ask_isWaiting (l : Launch) (hl9 : l.stackTraces = false) (D : va_G) (T : Nat → ClassId) (aK aV : Nat → Nat) (v : Nat → Nat) (B : Nat → Nat → Nat) (O : Nat → Nat → Nat → Int32) (g : CSt) (ln un nx pl : Nat) (f0 f1 f2 : Nat → Int32) (j : Nat) (N K C nt : Nat) (hOI : OI (O 0) N K C nt) (hj : j < N) (sz : Nat) : Met l yL_call__ wsL_call__ ({ frames := 11, cells := 4, slots := 24, locals := 242 } : Room) (va_Pc [.ref (v 0), .int (27), .int (nI j)] (LWP D T aK aV (WIN T v B O g ln un nx pl f0 f1 f2) sz)) (va_Qi (fun r9 (_ : Unit) => r9 = (bI (decide ((O 0) 8 j = 0)))) (fun _ t => QS D T (va_A (WIN T v B O g ln un nx pl f0 f1 f2) sz) (WIN T v B O g ln un nx pl f0 f1 f2) t) (va_A (WIN T v B O g ln un nx pl f0 f1 f2) sz)) 4 24 (va_A (WIN T v B O g ln un nx pl f0 f1 f2) sz) := by
  refine ask_eq ?_ (via3 (fun sz => c_call_27 l hl9 D T aK aV v B O g ln un nx pl f0 f1 f2 (nI j) (0) (0) (0) (0) N K C nt hOI sz) sz)
  rw [chkB_n (inN_ok hj (by have := hOI.2.1; omega)), kE_none, nI_clamp (by have := hOI.2.1; omega)]

set_option maxHeartbeats 1000000 in
theorem c_ask_isAnswered (l : Launch) (hl9 : l.stackTraces = false) (D : va_G) (T : Nat → ClassId) (aK aV : Nat → Nat) (v : Nat → Nat) (B : Nat → Nat → Nat) (O : Nat → Nat → Nat → Int32) (g : CSt) (ln un nx pl : Nat) (f0 f1 f2 : Nat → Int32) (j : Nat) (N K C nt : Nat) (hOI : OI (O 0) N K C nt) (hj : j < N) (sz : Nat) : Met l yL_call__ wsL_call__ ({ frames := 11, cells := 4, slots := 24, locals := 242 } : Room) (va_Pc [.ref (v 0), .int (28), .int (nI j)] (LWP D T aK aV (WIN T v B O g ln un nx pl f0 f1 f2) sz)) (va_Qi (fun r9 (_ : Unit) => r9 = (bI (decide ((O 0) 8 j = 1)))) (fun _ t => QS D T (va_A (WIN T v B O g ln un nx pl f0 f1 f2) sz) (WIN T v B O g ln un nx pl f0 f1 f2) t) (va_A (WIN T v B O g ln un nx pl f0 f1 f2) sz)) 4 24 (va_A (WIN T v B O g ln un nx pl f0 f1 f2) sz) := by
  refine ask_eq ?_ (via3 (fun sz => c_call_28 l hl9 D T aK aV v B O g ln un nx pl f0 f1 f2 (nI j) (0) (0) (0) (0) N K C nt hOI sz) sz)
  rw [chkB_n (inN_ok hj (by have := hOI.2.1; omega)), kE_none, nI_clamp (by have := hOI.2.1; omega)]

set_option maxHeartbeats 1000000 in
theorem c_ask_isDismissed (l : Launch) (hl9 : l.stackTraces = false) (D : va_G) (T : Nat → ClassId) (aK aV : Nat → Nat) (v : Nat → Nat) (B : Nat → Nat → Nat) (O : Nat → Nat → Nat → Int32) (g : CSt) (ln un nx pl : Nat) (f0 f1 f2 : Nat → Int32) (j : Nat) (N K C nt : Nat) (hOI : OI (O 0) N K C nt) (hj : j < N) (sz : Nat) : Met l yL_call__ wsL_call__ ({ frames := 11, cells := 4, slots := 24, locals := 242 } : Room) (va_Pc [.ref (v 0), .int (29), .int (nI j)] (LWP D T aK aV (WIN T v B O g ln un nx pl f0 f1 f2) sz)) (va_Qi (fun r9 (_ : Unit) => r9 = (bI (decide ((O 0) 8 j = 2)))) (fun _ t => QS D T (va_A (WIN T v B O g ln un nx pl f0 f1 f2) sz) (WIN T v B O g ln un nx pl f0 f1 f2) t) (va_A (WIN T v B O g ln un nx pl f0 f1 f2) sz)) 4 24 (va_A (WIN T v B O g ln un nx pl f0 f1 f2) sz) := by
  refine ask_eq ?_ (via3 (fun sz => c_call_29 l hl9 D T aK aV v B O g ln un nx pl f0 f1 f2 (nI j) (0) (0) (0) (0) N K C nt hOI sz) sz)
  rw [chkB_n (inN_ok hj (by have := hOI.2.1; omega)), kE_none, nI_clamp (by have := hOI.2.1; omega)]

set_option maxHeartbeats 1000000 in
theorem c_ask_isGivenUp (l : Launch) (hl9 : l.stackTraces = false) (D : va_G) (T : Nat → ClassId) (aK aV : Nat → Nat) (v : Nat → Nat) (B : Nat → Nat → Nat) (O : Nat → Nat → Nat → Int32) (g : CSt) (ln un nx pl : Nat) (f0 f1 f2 : Nat → Int32) (j : Nat) (N K C nt : Nat) (hOI : OI (O 0) N K C nt) (hj : j < N) (sz : Nat) : Met l yL_call__ wsL_call__ ({ frames := 11, cells := 4, slots := 24, locals := 242 } : Room) (va_Pc [.ref (v 0), .int (30), .int (nI j)] (LWP D T aK aV (WIN T v B O g ln un nx pl f0 f1 f2) sz)) (va_Qi (fun r9 (_ : Unit) => r9 = (bI (decide ((O 0) 8 j = 3)))) (fun _ t => QS D T (va_A (WIN T v B O g ln un nx pl f0 f1 f2) sz) (WIN T v B O g ln un nx pl f0 f1 f2) t) (va_A (WIN T v B O g ln un nx pl f0 f1 f2) sz)) 4 24 (va_A (WIN T v B O g ln un nx pl f0 f1 f2) sz) := by
  refine ask_eq ?_ (via3 (fun sz => c_call_30 l hl9 D T aK aV v B O g ln un nx pl f0 f1 f2 (nI j) (0) (0) (0) (0) N K C nt hOI sz) sz)
  rw [chkB_n (inN_ok hj (by have := hOI.2.1; omega)), kE_none, nI_clamp (by have := hOI.2.1; omega)]

set_option maxHeartbeats 1000000 in
theorem c_ask_closedIn (l : Launch) (hl9 : l.stackTraces = false) (D : va_G) (T : Nat → ClassId) (aK aV : Nat → Nat) (v : Nat → Nat) (B : Nat → Nat → Nat) (O : Nat → Nat → Nat → Int32) (g : CSt) (ln un nx pl : Nat) (f0 f1 f2 : Nat → Int32) (j : Nat) (N K C nt : Nat) (hOI : OI (O 0) N K C nt) (hj : j < N) (sz : Nat) : Met l yL_call__ wsL_call__ ({ frames := 11, cells := 4, slots := 24, locals := 242 } : Room) (va_Pc [.ref (v 0), .int (31), .int (nI j)] (LWP D T aK aV (WIN T v B O g ln un nx pl f0 f1 f2) sz)) (va_Qi (fun r9 (_ : Unit) => r9 = (if (O 0) 8 j = 0 then -101 else (O 0) 9 j)) (fun _ t => QS D T (va_A (WIN T v B O g ln un nx pl f0 f1 f2) sz) (WIN T v B O g ln un nx pl f0 f1 f2) t) (va_A (WIN T v B O g ln un nx pl f0 f1 f2) sz)) 4 24 (va_A (WIN T v B O g ln un nx pl f0 f1 f2) sz) := by
  refine ask_eq ?_ (via3 (fun sz => c_call_31 l hl9 D T aK aV v B O g ln un nx pl f0 f1 f2 (nI j) (0) (0) (0) (0) N K C nt hOI sz) sz)
  rw [chkB_n (inN_ok hj (by have := hOI.2.1; omega)), orE_n, nI_clamp (by have := hOI.2.1; omega)]; exact kE_if

set_option maxHeartbeats 1000000 in
theorem c_ask_clerkOf (l : Launch) (hl9 : l.stackTraces = false) (D : va_G) (T : Nat → ClassId) (aK aV : Nat → Nat) (v : Nat → Nat) (B : Nat → Nat → Nat) (O : Nat → Nat → Nat → Int32) (g : CSt) (ln un nx pl : Nat) (f0 f1 f2 : Nat → Int32) (j : Nat) (N K C nt : Nat) (hOI : OI (O 0) N K C nt) (hj : j < N) (sz : Nat) : Met l yL_call__ wsL_call__ ({ frames := 11, cells := 4, slots := 24, locals := 242 } : Room) (va_Pc [.ref (v 0), .int (32), .int (nI j)] (LWP D T aK aV (WIN T v B O g ln un nx pl f0 f1 f2) sz)) (va_Qi (fun r9 (_ : Unit) => r9 = (if (O 0) 10 j = -1 then -101 else (O 0) 10 j)) (fun _ t => QS D T (va_A (WIN T v B O g ln un nx pl f0 f1 f2) sz) (WIN T v B O g ln un nx pl f0 f1 f2) t) (va_A (WIN T v B O g ln un nx pl f0 f1 f2) sz)) 4 24 (va_A (WIN T v B O g ln un nx pl f0 f1 f2) sz) := by
  refine ask_eq ?_ (via3 (fun sz => c_call_32 l hl9 D T aK aV v B O g ln un nx pl f0 f1 f2 (nI j) (0) (0) (0) (0) N K C nt hOI sz) sz)
  rw [chkB_n (inN_ok hj (by have := hOI.2.1; omega)), orE_n, nI_clamp (by have := hOI.2.1; omega)]; exact kE_if

set_option maxHeartbeats 1000000 in
theorem c_ask_waitingOf (l : Launch) (hl9 : l.stackTraces = false) (D : va_G) (T : Nat → ClassId) (aK aV : Nat → Nat) (v : Nat → Nat) (B : Nat → Nat → Nat) (O : Nat → Nat → Nat → Int32) (g : CSt) (ln un nx pl : Nat) (f0 f1 f2 : Nat → Int32) (z z1 : Int32) (N K C nt : Nat) (hOI : OI (O 0) N K C nt) (hz : rg z 0 99 = true) (hz1 : rg z1 0 3 = true) (sz : Nat) : Met l yL_call_ wsL_call_ ({ frames := 11, cells := 4, slots := 24, locals := 242 } : Room) (va_Pc [.ref (v 0), .int (33), .int (z), .int (z1)] (LWP D T aK aV (WIN T v B O g ln un nx pl f0 f1 f2) sz)) (va_Qi (fun r9 (_ : Unit) => r9 = ((findC (O 0) z z1 N).elim (-101) nI)) (fun _ t => QS D T (va_A (WIN T v B O g ln un nx pl f0 f1 f2) sz) (WIN T v B O g ln un nx pl f0 f1 f2) t) (va_A (WIN T v B O g ln un nx pl f0 f1 f2) sz)) 4 24 (va_A (WIN T v B O g ln un nx pl f0 f1 f2) sz) := by
  refine ask_eq ?_ (via4 (fun sz => c_call_33 l hl9 D T aK aV v B O g ln un nx pl f0 f1 f2 (z) (z1) (0) (0) (0) N K C nt hOI sz) sz)
  rw [chkB_n hz, chkB_n hz1, orE_n, orE_n]; exact kE_opt _

set_option maxHeartbeats 1000000 in
theorem c_ask_oldest (l : Launch) (hl9 : l.stackTraces = false) (D : va_G) (T : Nat → ClassId) (aK aV : Nat → Nat) (v : Nat → Nat) (B : Nat → Nat → Nat) (O : Nat → Nat → Nat → Int32) (g : CSt) (ln un nx pl : Nat) (f0 f1 f2 : Nat → Int32)  (N K C nt : Nat) (hOI : OI (O 0) N K C nt) (sz : Nat) : Met l yL_call__ wsL_call__ ({ frames := 11, cells := 4, slots := 24, locals := 242 } : Room) (va_Pc [.ref (v 0), .int (34), .int (0)] (LWP D T aK aV (WIN T v B O g ln un nx pl f0 f1 f2) sz)) (va_Qi (fun r9 (_ : Unit) => r9 = ((firstC (O 0) ((O 0) 0 0) N).elim (-101) nI)) (fun _ t => QS D T (va_A (WIN T v B O g ln un nx pl f0 f1 f2) sz) (WIN T v B O g ln un nx pl f0 f1 f2) t) (va_A (WIN T v B O g ln un nx pl f0 f1 f2) sz)) 4 24 (va_A (WIN T v B O g ln un nx pl f0 f1 f2) sz) := by
  refine ask_eq ?_ (via3 (fun sz => c_call_34 l hl9 D T aK aV v B O g ln un nx pl f0 f1 f2 (0) (0) (0) (0) (0) N K C nt hOI sz) sz)
  exact kE_opt _

set_option maxHeartbeats 1000000 in
theorem c_ask_angriest (l : Launch) (hl9 : l.stackTraces = false) (D : va_G) (T : Nat → ClassId) (aK aV : Nat → Nat) (v : Nat → Nat) (B : Nat → Nat → Nat) (O : Nat → Nat → Nat → Int32) (g : CSt) (ln un nx pl : Nat) (f0 f1 f2 : Nat → Int32)  (N K C nt : Nat) (hOI : OI (O 0) N K C nt) (sz : Nat) : Met l yL_call__ wsL_call__ ({ frames := 11, cells := 4, slots := 24, locals := 242 } : Room) (va_Pc [.ref (v 0), .int (35), .int (0)] (LWP D T aK aV (WIN T v B O g ln un nx pl f0 f1 f2) sz)) (va_Qi (fun r9 (_ : Unit) => r9 = ((mostC (O 0) 15 N).elim (-101) nI)) (fun _ t => QS D T (va_A (WIN T v B O g ln un nx pl f0 f1 f2) sz) (WIN T v B O g ln un nx pl f0 f1 f2) t) (va_A (WIN T v B O g ln un nx pl f0 f1 f2) sz)) 4 24 (va_A (WIN T v B O g ln un nx pl f0 f1 f2) sz) := by
  refine ask_eq ?_ (via3 (fun sz => c_call_35 l hl9 D T aK aV v B O g ln un nx pl f0 f1 f2 (0) (0) (0) (0) (0) N K C nt hOI sz) sz)
  exact kE_opt _

set_option maxHeartbeats 1000000 in
theorem c_ask_complaintsOf (l : Launch) (hl9 : l.stackTraces = false) (D : va_G) (T : Nat → ClassId) (aK aV : Nat → Nat) (v : Nat → Nat) (B : Nat → Nat → Nat) (O : Nat → Nat → Nat → Int32) (g : CSt) (ln un nx pl : Nat) (f0 f1 f2 : Nat → Int32) (z : Int32) (N K C nt : Nat) (hOI : OI (O 0) N K C nt) (hz : rg z 0 99 = true) (sz : Nat) : Met l yL_call__ wsL_call__ ({ frames := 11, cells := 4, slots := 24, locals := 242 } : Room) (va_Pc [.ref (v 0), .int (36), .int (z)] (LWP D T aK aV (WIN T v B O g ln un nx pl f0 f1 f2) sz)) (va_Qi (fun r9 (_ : Unit) => r9 = (cntI (fun k => decide ((O 0) 4 k = z)) N 0 0)) (fun _ t => QS D T (va_A (WIN T v B O g ln un nx pl f0 f1 f2) sz) (WIN T v B O g ln un nx pl f0 f1 f2) t) (va_A (WIN T v B O g ln un nx pl f0 f1 f2) sz)) 4 24 (va_A (WIN T v B O g ln un nx pl f0 f1 f2) sz) := by
  refine ask_eq ?_ (via3 (fun sz => c_call_36 l hl9 D T aK aV v B O g ln un nx pl f0 f1 f2 (z) (0) (0) (0) (0) N K C nt hOI sz) sz)
  rw [chkB_n hz, kE_none]

set_option maxHeartbeats 1000000 in
theorem c_ask_darkestClerk (l : Launch) (hl9 : l.stackTraces = false) (D : va_G) (T : Nat → ClassId) (aK aV : Nat → Nat) (v : Nat → Nat) (B : Nat → Nat → Nat) (O : Nat → Nat → Nat → Int32) (g : CSt) (ln un nx pl : Nat) (f0 f1 f2 : Nat → Int32)  (N K C nt : Nat) (hOI : OI (O 0) N K C nt) (sz : Nat) : Met l yL_call__ wsL_call__ ({ frames := 11, cells := 4, slots := 24, locals := 242 } : Room) (va_Pc [.ref (v 0), .int (37), .int (0)] (LWP D T aK aV (WIN T v B O g ln un nx pl f0 f1 f2) sz)) (va_Qi (fun r9 (_ : Unit) => r9 = (((minF (fun _ => true) ((O 0) 3) K 0 (none, 100)).1).elim (-101) nI)) (fun _ t => QS D T (va_A (WIN T v B O g ln un nx pl f0 f1 f2) sz) (WIN T v B O g ln un nx pl f0 f1 f2) t) (va_A (WIN T v B O g ln un nx pl f0 f1 f2) sz)) 4 24 (va_A (WIN T v B O g ln un nx pl f0 f1 f2) sz) := by
  refine ask_eq ?_ (via3 (fun sz => c_call_37 l hl9 D T aK aV v B O g ln un nx pl f0 f1 f2 (0) (0) (0) (0) (0) N K C nt hOI sz) sz)
  exact kE_opt _

set_option maxHeartbeats 1000000 in
theorem c_ask_skillOf (l : Launch) (hl9 : l.stackTraces = false) (D : va_G) (T : Nat → ClassId) (aK aV : Nat → Nat) (v : Nat → Nat) (B : Nat → Nat → Nat) (O : Nat → Nat → Nat → Int32) (g : CSt) (ln un nx pl : Nat) (f0 f1 f2 : Nat → Int32) (j : Nat) (N K C nt : Nat) (hOI : OI (O 0) N K C nt) (hj : j < K) (sz : Nat) : Met l yL_call__ wsL_call__ ({ frames := 11, cells := 4, slots := 24, locals := 242 } : Room) (va_Pc [.ref (v 0), .int (38), .int (nI j)] (LWP D T aK aV (WIN T v B O g ln un nx pl f0 f1 f2) sz)) (va_Qi (fun r9 (_ : Unit) => r9 = ((O 0) 2 j)) (fun _ t => QS D T (va_A (WIN T v B O g ln un nx pl f0 f1 f2) sz) (WIN T v B O g ln un nx pl f0 f1 f2) t) (va_A (WIN T v B O g ln un nx pl f0 f1 f2) sz)) 4 24 (va_A (WIN T v B O g ln un nx pl f0 f1 f2) sz) := by
  refine ask_eq ?_ (via3 (fun sz => c_call_38 l hl9 D T aK aV v B O g ln un nx pl f0 f1 f2 (nI j) (0) (0) (0) (0) N K C nt hOI sz) sz)
  rw [chkB_n (inN_ok hj (by have := hOI.2.2.2.1; omega)), kE_none, nI_clamp (by have := hOI.2.2.2.1; omega)]

set_option maxHeartbeats 1000000 in
theorem c_ask_oilOf (l : Launch) (hl9 : l.stackTraces = false) (D : va_G) (T : Nat → ClassId) (aK aV : Nat → Nat) (v : Nat → Nat) (B : Nat → Nat → Nat) (O : Nat → Nat → Nat → Int32) (g : CSt) (ln un nx pl : Nat) (f0 f1 f2 : Nat → Int32) (j : Nat) (N K C nt : Nat) (hOI : OI (O 0) N K C nt) (hj : j < K) (sz : Nat) : Met l yL_call__ wsL_call__ ({ frames := 11, cells := 4, slots := 24, locals := 242 } : Room) (va_Pc [.ref (v 0), .int (39), .int (nI j)] (LWP D T aK aV (WIN T v B O g ln un nx pl f0 f1 f2) sz)) (va_Qi (fun r9 (_ : Unit) => r9 = ((O 0) 3 j)) (fun _ t => QS D T (va_A (WIN T v B O g ln un nx pl f0 f1 f2) sz) (WIN T v B O g ln un nx pl f0 f1 f2) t) (va_A (WIN T v B O g ln un nx pl f0 f1 f2) sz)) 4 24 (va_A (WIN T v B O g ln un nx pl f0 f1 f2) sz) := by
  refine ask_eq ?_ (via3 (fun sz => c_call_39 l hl9 D T aK aV v B O g ln un nx pl f0 f1 f2 (nI j) (0) (0) (0) (0) N K C nt hOI sz) sz)
  rw [chkB_n (inN_ok hj (by have := hOI.2.2.2.1; omega)), kE_none, nI_clamp (by have := hOI.2.2.2.1; omega)]

set_option maxHeartbeats 1000000 in
theorem c_ask_answeredBy (l : Launch) (hl9 : l.stackTraces = false) (D : va_G) (T : Nat → ClassId) (aK aV : Nat → Nat) (v : Nat → Nat) (B : Nat → Nat → Nat) (O : Nat → Nat → Nat → Int32) (g : CSt) (ln un nx pl : Nat) (f0 f1 f2 : Nat → Int32) (j : Nat) (N K C nt : Nat) (hOI : OI (O 0) N K C nt) (hj : j < K) (sz : Nat) : Met l yL_call__ wsL_call__ ({ frames := 11, cells := 4, slots := 24, locals := 242 } : Room) (va_Pc [.ref (v 0), .int (40), .int (nI j)] (LWP D T aK aV (WIN T v B O g ln un nx pl f0 f1 f2) sz)) (va_Qi (fun r9 (_ : Unit) => r9 = (cntI (fun k => decide ((O 0) 8 k = 1) && decide ((O 0) 10 k = nI j)) N 0 0)) (fun _ t => QS D T (va_A (WIN T v B O g ln un nx pl f0 f1 f2) sz) (WIN T v B O g ln un nx pl f0 f1 f2) t) (va_A (WIN T v B O g ln un nx pl f0 f1 f2) sz)) 4 24 (va_A (WIN T v B O g ln un nx pl f0 f1 f2) sz) := by
  refine ask_eq ?_ (via3 (fun sz => c_call_40 l hl9 D T aK aV v B O g ln un nx pl f0 f1 f2 (nI j) (0) (0) (0) (0) N K C nt hOI sz) sz)
  rw [chkB_n (inN_ok hj (by have := hOI.2.2.2.1; omega)), kE_none]

set_option maxHeartbeats 1000000 in
theorem c_ask_bad16 (l : Launch) (hl9 : l.stackTraces = false) (D : va_G) (T : Nat → ClassId) (aK aV : Nat → Nat) (v : Nat → Nat) (B : Nat → Nat → Nat) (O : Nat → Nat → Nat → Int32) (g : CSt) (ln un nx pl : Nat) (f0 f1 f2 : Nat → Int32)  (N K C nt : Nat) (hOI : OI (O 0) N K C nt) (sz : Nat) : Met l yL_call__ wsL_call__ ({ frames := 11, cells := 4, slots := 24, locals := 242 } : Room) (va_Pc [.ref (v 0), .int (16), .int (-1)] (LWP D T aK aV (WIN T v B O g ln un nx pl f0 f1 f2) sz)) (va_Qi (fun r9 (_ : Unit) => r9 = (-103)) (fun _ t => QS D T (va_A (WIN T v B O g ln un nx pl f0 f1 f2) sz) (WIN T v B O g ln un nx pl f0 f1 f2) t) (va_A (WIN T v B O g ln un nx pl f0 f1 f2) sz)) 4 24 (va_A (WIN T v B O g ln un nx pl f0 f1 f2) sz) := by
  refine ask_eq ?_ (via3 (fun sz => c_call_16 l hl9 D T aK aV v B O g ln un nx pl f0 f1 f2 (-1) (0) (0) (0) (0) N K C nt hOI sz) sz)
  rfl

set_option maxHeartbeats 1000000 in
theorem c_ask_bad19 (l : Launch) (hl9 : l.stackTraces = false) (D : va_G) (T : Nat → ClassId) (aK aV : Nat → Nat) (v : Nat → Nat) (B : Nat → Nat → Nat) (O : Nat → Nat → Nat → Int32) (g : CSt) (ln un nx pl : Nat) (f0 f1 f2 : Nat → Int32)  (N K C nt : Nat) (hOI : OI (O 0) N K C nt) (sz : Nat) : Met l yL_call__ wsL_call__ ({ frames := 11, cells := 4, slots := 24, locals := 242 } : Room) (va_Pc [.ref (v 0), .int (19), .int (2001)] (LWP D T aK aV (WIN T v B O g ln un nx pl f0 f1 f2) sz)) (va_Qi (fun r9 (_ : Unit) => r9 = (-103)) (fun _ t => QS D T (va_A (WIN T v B O g ln un nx pl f0 f1 f2) sz) (WIN T v B O g ln un nx pl f0 f1 f2) t) (va_A (WIN T v B O g ln un nx pl f0 f1 f2) sz)) 4 24 (va_A (WIN T v B O g ln un nx pl f0 f1 f2) sz) := by
  refine ask_eq ?_ (via3 (fun sz => c_call_19 l hl9 D T aK aV v B O g ln un nx pl f0 f1 f2 (2001) (0) (0) (0) (0) N K C nt hOI sz) sz)
  rfl

set_option maxHeartbeats 1000000 in
theorem c_ask_bad20 (l : Launch) (hl9 : l.stackTraces = false) (D : va_G) (T : Nat → ClassId) (aK aV : Nat → Nat) (v : Nat → Nat) (B : Nat → Nat → Nat) (O : Nat → Nat → Nat → Int32) (g : CSt) (ln un nx pl : Nat) (f0 f1 f2 : Nat → Int32)  (N K C nt : Nat) (hOI : OI (O 0) N K C nt) (sz : Nat) : Met l yL_call_ wsL_call_ ({ frames := 11, cells := 4, slots := 24, locals := 242 } : Room) (va_Pc [.ref (v 0), .int (20), .int (4), .int (0)] (LWP D T aK aV (WIN T v B O g ln un nx pl f0 f1 f2) sz)) (va_Qi (fun r9 (_ : Unit) => r9 = (-103)) (fun _ t => QS D T (va_A (WIN T v B O g ln un nx pl f0 f1 f2) sz) (WIN T v B O g ln un nx pl f0 f1 f2) t) (va_A (WIN T v B O g ln un nx pl f0 f1 f2) sz)) 4 24 (va_A (WIN T v B O g ln un nx pl f0 f1 f2) sz) := by
  refine ask_eq ?_ (via4 (fun sz => c_call_20 l hl9 D T aK aV v B O g ln un nx pl f0 f1 f2 (4) (0) (0) (0) (0) N K C nt hOI sz) sz)
  rfl

set_option maxHeartbeats 1000000 in
theorem c_ask_bad21 (l : Launch) (hl9 : l.stackTraces = false) (D : va_G) (T : Nat → ClassId) (aK aV : Nat → Nat) (v : Nat → Nat) (B : Nat → Nat → Nat) (O : Nat → Nat → Nat → Int32) (g : CSt) (ln un nx pl : Nat) (f0 f1 f2 : Nat → Int32)  (N K C nt : Nat) (hOI : OI (O 0) N K C nt) (sz : Nat) : Met l yL_call__ wsL_call__ ({ frames := 11, cells := 4, slots := 24, locals := 242 } : Room) (va_Pc [.ref (v 0), .int (21), .int (-1)] (LWP D T aK aV (WIN T v B O g ln un nx pl f0 f1 f2) sz)) (va_Qi (fun r9 (_ : Unit) => r9 = (-103)) (fun _ t => QS D T (va_A (WIN T v B O g ln un nx pl f0 f1 f2) sz) (WIN T v B O g ln un nx pl f0 f1 f2) t) (va_A (WIN T v B O g ln un nx pl f0 f1 f2) sz)) 4 24 (va_A (WIN T v B O g ln un nx pl f0 f1 f2) sz) := by
  refine ask_eq ?_ (via3 (fun sz => c_call_21 l hl9 D T aK aV v B O g ln un nx pl f0 f1 f2 (-1) (0) (0) (0) (0) N K C nt hOI sz) sz)
  rfl

set_option maxHeartbeats 1000000 in
theorem c_ask_bad36 (l : Launch) (hl9 : l.stackTraces = false) (D : va_G) (T : Nat → ClassId) (aK aV : Nat → Nat) (v : Nat → Nat) (B : Nat → Nat → Nat) (O : Nat → Nat → Nat → Int32) (g : CSt) (ln un nx pl : Nat) (f0 f1 f2 : Nat → Int32)  (N K C nt : Nat) (hOI : OI (O 0) N K C nt) (sz : Nat) : Met l yL_call__ wsL_call__ ({ frames := 11, cells := 4, slots := 24, locals := 242 } : Room) (va_Pc [.ref (v 0), .int (36), .int (100)] (LWP D T aK aV (WIN T v B O g ln un nx pl f0 f1 f2) sz)) (va_Qi (fun r9 (_ : Unit) => r9 = (-103)) (fun _ t => QS D T (va_A (WIN T v B O g ln un nx pl f0 f1 f2) sz) (WIN T v B O g ln un nx pl f0 f1 f2) t) (va_A (WIN T v B O g ln un nx pl f0 f1 f2) sz)) 4 24 (va_A (WIN T v B O g ln un nx pl f0 f1 f2) sz) := by
  refine ask_eq ?_ (via3 (fun sz => c_call_36 l hl9 D T aK aV v B O g ln un nx pl f0 f1 f2 (100) (0) (0) (0) (0) N K C nt hOI sz) sz)
  rfl

set_option maxHeartbeats 1000000 in
theorem c_ask_bad25 (l : Launch) (hl9 : l.stackTraces = false) (D : va_G) (T : Nat → ClassId) (aK aV : Nat → Nat) (v : Nat → Nat) (B : Nat → Nat → Nat) (O : Nat → Nat → Nat → Int32) (g : CSt) (ln un nx pl : Nat) (f0 f1 f2 : Nat → Int32)  (N K C nt : Nat) (hOI : OI (O 0) N K C nt) (sz : Nat) : Met l yL_call__ wsL_call__ ({ frames := 11, cells := 4, slots := 24, locals := 242 } : Room) (va_Pc [.ref (v 0), .int (25), .int (nI N)] (LWP D T aK aV (WIN T v B O g ln un nx pl f0 f1 f2) sz)) (va_Qi (fun r9 (_ : Unit) => r9 = (-104)) (fun _ t => QS D T (va_A (WIN T v B O g ln un nx pl f0 f1 f2) sz) (WIN T v B O g ln un nx pl f0 f1 f2) t) (va_A (WIN T v B O g ln un nx pl f0 f1 f2) sz)) 4 24 (va_A (WIN T v B O g ln un nx pl f0 f1 f2) sz) := by
  refine ask_eq ?_ (via3 (fun sz => c_call_25 l hl9 D T aK aV v B O g ln un nx pl f0 f1 f2 (nI N) (0) (0) (0) (0) N K C nt hOI sz) sz)
  rw [chkB_f (inN_no _)]; rfl

set_option maxHeartbeats 1000000 in
theorem c_ask_bad39 (l : Launch) (hl9 : l.stackTraces = false) (D : va_G) (T : Nat → ClassId) (aK aV : Nat → Nat) (v : Nat → Nat) (B : Nat → Nat → Nat) (O : Nat → Nat → Nat → Int32) (g : CSt) (ln un nx pl : Nat) (f0 f1 f2 : Nat → Int32)  (N K C nt : Nat) (hOI : OI (O 0) N K C nt) (sz : Nat) : Met l yL_call__ wsL_call__ ({ frames := 11, cells := 4, slots := 24, locals := 242 } : Room) (va_Pc [.ref (v 0), .int (39), .int (nI K)] (LWP D T aK aV (WIN T v B O g ln un nx pl f0 f1 f2) sz)) (va_Qi (fun r9 (_ : Unit) => r9 = (-104)) (fun _ t => QS D T (va_A (WIN T v B O g ln un nx pl f0 f1 f2) sz) (WIN T v B O g ln un nx pl f0 f1 f2) t) (va_A (WIN T v B O g ln un nx pl f0 f1 f2) sz)) 4 24 (va_A (WIN T v B O g ln un nx pl f0 f1 f2) sz) := by
  refine ask_eq ?_ (via3 (fun sz => c_call_39 l hl9 D T aK aV v B O g ln un nx pl f0 f1 f2 (nI K) (0) (0) (0) (0) N K C nt hOI sz) sz)
  rw [chkB_f (inN_no _)]; rfl
