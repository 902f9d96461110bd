/-! the law's walk: its calls, its script, its state -/
theorem Foc.lft (w w1 r : va_W) : Foc (w ++ r) w (w1 ++ r) w1 := ⟨r, List.Perm.refl _, List.Perm.refl _⟩
theorem Foc.rgt (w r r1 : va_W) : Foc (w ++ r) r (w ++ r1) r1 := ⟨w, List.perm_append_comm, List.perm_append_comm⟩
theorem Foc.mid (x : Nat × va_E) (w w1 r : va_W) : Foc ((x :: w) ++ r) w ((x :: w1) ++ r) w1 :=
  ⟨x :: r, (List.perm_middle (l₁ := w) (l₂ := r) (a := x)).symm, (List.perm_middle (l₁ := w1) (l₂ := r) (a := x)).symm⟩
section LR
variable {p : Program} {l : Launch} {e : Env} {R : Room} {s : State} {m : MethodId} {args : Array Value} {below : List Frame} {meth : Method} {c : Code} {H H0 : Heap} {locs : List Loc} {cells slots : Nat} {Q : State → Prop}
  {Ts wsy : List Cond} {cc bytes : ByteArray} {nL maxL index n mc ms pc : Nat} {own C : String} {y : MethodName} {ret : Option FieldType} {rm : Room} {b : Addr} {As rest st : List Value} {ls : Array Slot}
  {D : va_G} {T : Nat → ClassId} {ws wc ws1 wc1 : va_W} {A0 : Nat → Prop} {aK aV : Nat → Nat}
theorem PSN.blind (as : List Value) (D : va_G) (T : Nat → ClassId) (aK aV : Nat → Nat) (ws : va_W) (sz : Nat) : FrameBlind (va_Pc as (fun U => PSc D T aK aV ws sz U ∧ NCX U)) := fun a U g mk q =>
  ⟨q.1, (PSc.blind as D T aK aV ws sz a U g mk ⟨q.1, q.2.1⟩).2, NCX.moved (u := U) (U := U.calling g mk a) (Vm.Alike.refl U.vm) q.2.2⟩
/-- a helper of the law called -/
theorem wlSi {r : Int32} {hh : List (Nat × Nat × Nat × Nat)} (S : CallFix p m c cc nL s args Ts own) (hM : Met l y wsy rm (va_Pc As (fun U => PSc D T aK aV wc H.size U ∧ NCX U)) (va_Qi (fun r' (_ : Unit) => r' = r) (fun _ t => QS D T (va_A wc H.size) wc1 t) (va_A wc H.size)) mc ms (va_A wc H.size)) (cw : vx_CSW R s args own index y bytes maxL ret hh wsy rm mc ms n)
    (F : Foc ws wc ws1 wc1) (hC : CX aK aV A0 s H0) (hN : NCX s) (hK : va_K D vwCl (tyL T) s) (hP : va_P D vwCl ws H) (hD : va_D A0 ws) (hS : va_S A0 H0 H locs) (hA : ∀ q, H0.size ≤ q → A0 q)
    (hn : As.length = n) (hsize : ls.size = nL) (hst : st = As.reverse ++ rest) (hW : (rest.map fun v => v.category).sum ≤ 8) (hcs : cells + mc ≤ R.cells ∧ slots + ms ≤ R.slots) (hdg : decode cc pc = .ok (.invokestatic index, 3))
    (kk : ∀ (H1 : Heap) (locs1 : List Loc), va_P D vwCl ws1 H1 → va_D A0 ws1 → va_S A0 H0 H1 locs1 → W p l e R s m args below meth c H1 locs1 (cells + mc) (slots + ms) Q (F0 m (pc + 3) ls (.int r :: rest))) : W p l e R s m args below meth c H locs cells slots Q (F0 m pc ls st) := by
  have hPc := F.subP hP
  have hDc := F.subD hD
  have hFc := F.free hD hS hA
  refine va_calli (vx_runSW S hM cw ⟨PSN.blind _ _ _ _ _ _ _, fun U hU hW => ⟨rfl, ⟨⟨by rw [hU], by rw [hU]; exact hPc, va_K.moved hW.alike hK, hDc.weaken (fun _ _ _ _ => trivial)⟩, hC.call hS hFc hU hW⟩, hN.moved hW.alike⟩⟩ rfl hn hsize hst (lv_room hW) hdg hcs) hS (fun q _ h => hFc q h) hFc (fun r1 u t H1 locs1 ht hvm hw hB hz1 hk1 hS1 => ?_)
  obtain ⟨hP1, hK1, hD1⟩ := hB
  rw [ht] at hP1
  obtain ⟨g1, g2⟩ := F.join hP hD hk1 hFc hP1 hD1
  subst hw
  exact kk H1 locs1 g1 g2 hS1
theorem wrVd {r : UInt64} {T' : u_T} {N' ci : Nat} {fs : List Value} (S : CallFix p m c cc nL s args Ts own) (hM : Met l y wsy rm (va_Pc (.ref b :: As) (PS D T wc H.size)) (va_Qd (fun r' (_ : Unit) => r' = r) (fun _ t => QS D T (va_A wc H.size) wc1 t) (va_A wc H.size)) mc ms (va_A wc H.size)) (cw : CallW R s args own C index y bytes maxL ret wsy rm mc ms n)
    (F : Foc ws wc ws1 wc1) (hK : va_K D vwCl (tyL T) s) (hP : va_P D vwCl ws H) (hD : va_D A0 ws) (hS : va_S A0 H0 H locs) (hA : ∀ q, H0.size ≤ q → A0 q)
    (q0 : Nat) (he : wc[q0]? = some (b, .inr (ci, fs))) (hc : vwCl[ci]? = some (C, T', N')) (hn : As.length = n) (hsize : ls.size = nL) (hst : st = As.reverse ++ .ref b :: rest) (hW : (rest.map fun v => v.category).sum ≤ 8) (hcs : cells + mc ≤ R.cells ∧ slots + ms ≤ R.slots) (hdg : decode cc pc = .ok (.invokevirtual index, 3))
    (kk : ∀ (H1 : Heap) (locs1 : List Loc), va_P D vwCl ws1 H1 → va_D A0 ws1 → va_S A0 H0 H1 locs1 → W p l e R s m args below meth c H1 locs1 (cells + mc) (slots + ms) Q (F0 m (pc + 3) ls (.double r :: rest))) : W p l e R s m args below meth c H locs cells slots Q (F0 m pc ls st) := by
  have hPc := F.subP hP
  have hDc := F.subD hD
  have hFc := F.free hD hS hA
  refine va_calld (va_runV S hM cw ⟨PS.blind _ _ _ _ _, va_recv hK hPc hc he, fun U hU hW => ⟨rfl, by rw [hU], by rw [hU]; exact hPc, va_K.moved hW.alike hK, hDc.weaken (fun _ _ _ _ => trivial)⟩⟩ rfl hn hsize hst (lv_room hW) hdg hcs) hS (fun q _ h => hFc q h) hFc (fun r1 u t H1 locs1 ht hvm hw hB hz1 hk1 hS1 => ?_)
  obtain ⟨hP1, hK1, hD1⟩ := hB
  rw [ht] at hP1
  obtain ⟨g1, g2⟩ := F.join hP hD hk1 hFc hP1 hD1
  subst hw
  exact kk H1 locs1 g1 g2 hS1
theorem wrVf {r : UInt32} {T' : u_T} {N' ci : Nat} {fs : List Value} (S : CallFix p m c cc nL s args Ts own) (hM : Met l y wsy rm (va_Pc (.ref b :: As) (PS D T wc H.size)) (va_Qf (fun r' (_ : Unit) => r' = r) (fun _ t => QS D T (va_A wc H.size) wc1 t) (va_A wc H.size)) mc ms (va_A wc H.size)) (cw : CallW R s args own C index y bytes maxL ret wsy rm mc ms n)
    (F : Foc ws wc ws1 wc1) (hK : va_K D vwCl (tyL T) s) (hP : va_P D vwCl ws H) (hD : va_D A0 ws) (hS : va_S A0 H0 H locs) (hA : ∀ q, H0.size ≤ q → A0 q)
    (q0 : Nat) (he : wc[q0]? = some (b, .inr (ci, fs))) (hc : vwCl[ci]? = some (C, T', N')) (hn : As.length = n) (hsize : ls.size = nL) (hst : st = As.reverse ++ .ref b :: rest) (hW : (rest.map fun v => v.category).sum ≤ 8) (hcs : cells + mc ≤ R.cells ∧ slots + ms ≤ R.slots) (hdg : decode cc pc = .ok (.invokevirtual index, 3))
    (kk : ∀ (H1 : Heap) (locs1 : List Loc), va_P D vwCl ws1 H1 → va_D A0 ws1 → va_S A0 H0 H1 locs1 → W p l e R s m args below meth c H1 locs1 (cells + mc) (slots + ms) Q (F0 m (pc + 3) ls (.float r :: rest))) : W p l e R s m args below meth c H locs cells slots Q (F0 m pc ls st) := by
  have hPc := F.subP hP
  have hDc := F.subD hD
  have hFc := F.free hD hS hA
  refine va_callf (va_runV S hM cw ⟨PS.blind _ _ _ _ _, va_recv hK hPc hc he, fun U hU hW => ⟨rfl, by rw [hU], by rw [hU]; exact hPc, va_K.moved hW.alike hK, hDc.weaken (fun _ _ _ _ => trivial)⟩⟩ rfl hn hsize hst (lv_room hW) hdg hcs) hS (fun q _ h => hFc q h) hFc (fun r1 u t H1 locs1 ht hvm hw hB hz1 hk1 hS1 => ?_)
  obtain ⟨hP1, hK1, hD1⟩ := hB
  rw [ht] at hP1
  obtain ⟨g1, g2⟩ := F.join hP hD hk1 hFc hP1 hD1
  subst hw
  exact kk H1 locs1 g1 g2 hS1
/-- a cell of the script -/
theorem sldN (hexec : p.tables.exec = Jvm.exec) (hb : c.code = cc) {sc L : Nat} {xs : Nat → Int32} (hX : va_X sc L xs s H0) (hbl : sc < H0.size) (hbA : ¬ A0 sc) (hS : va_S A0 H0 H locs) {k : Nat} {z : Int32} (hz : xs k = z) (hk : k < L) (hL : L ≤ 3072) (hdg : decode cc pc = .ok (.iaload, 1))
    (kk : W p l e R s m args below meth c H locs cells slots Q (F0 m (pc + 1) ls (.int z :: rest))) : W p l e R s m args below meth c H locs cells slots Q (F0 m pc ls (.int (nI k) :: .ref sc :: rest)) := by
  have h1 : (nI k).toNatClampNeg = k := nI_clamp (by omega)
  refine va_sld hexec hb hX hbl hbA hS (nI_in hk (by omega)) hdg ?_
  rw [h1, hz]
  exact kk
end LR
/-- what stands while the law runs -/
def LCX (p : Program) (l : Launch) (s : State) (m : MethodId) (args : Array Value) (c : Code) (D : va_G) (T : Nat → ClassId) (aK aV : Nat → Nat) (A : Nat → Prop) (sc L : Nat) (xs : Nat → Int32) : Prop :=
  l.stackTraces = false ∧ p.tables.exec = Jvm.exec ∧ c.code = cL_law ∧ c.maxLocals = 9 ∧ s.vm.findClass RL = some m.cls ∧ (∀ w ∈ lw_tbl, w.before args s = true) ∧ va_X sc L xs s s.heap ∧ sc < s.heap.size ∧ ¬ A sc ∧ (∀ q : Nat, s.heap.size ≤ q → A q) ∧ CX aK aV A s s.heap ∧ NCX s ∧ va_K D vwCl (tyL T) s ∧ L ≤ 3072
def WLD (T : Nat → ClassId) (ob : Nat) (fo : Nat → Int64) (v : Nat → Nat) (B : Nat → Nat → Nat) (O : Nat → Nat → Nat → Int32) (g : CSt) (ln un nx pl : Nat) (f0 f1 f2 : Nat → Int32) (b : Nat → Nat) (y : Nat → Nat → Int32) (w : Int64) : va_W := (OUT T ob fo :: WIN T v B O g ln un nx pl f0 f1 f2) ++ REF T b y w
/-- .. and what is so at each call's beginning: the law's number i, the script at sc -/
def LST (s : State) (D : va_G) (T : Nat → ClassId) (A : Nat → Prop) (sc : Nat) (v : Nat → Nat) (B : Nat → Nat → Nat) (b : Nat → Nat) (ob i : Nat) (H : Heap) (locs : List Loc) (ls : Array Slot) : Prop :=
  ∃ O g ln un nx pl f0 f1 f2 y w fo, va_P D vwCl ((OUT T ob fo :: WIN T v B O g ln un nx pl f0 f1 f2) ++ REF T b y w) H ∧ va_D A ((OUT T ob fo :: WIN T v B O g ln un nx pl f0 f1 f2) ++ REF T b y w) ∧ va_S A s.heap H locs ∧ GI O g ln un nx pl f0 f1 f2 y ∧
    lv_has ls 9 [(0, .ref sc), (1, .ref (v 0)), (2, .ref (b 0)), (3, .ref ob), (4, .int (nI i))]
theorem kC_some {e1 E : String} : ¬ kC e1 (some E) = 0 := by
  show ¬ (if E = e1 then 1 else 2 : Int32) = 0
  by_cases h : E = e1
  · rw [if_pos h]; decide
  · rw [if_neg h]; decide
theorem STEP.code {CD : Option String} {e1 : String} {V R : Int64} {t : Int32} {G1 G2 : Prop} (h : STEP CD e1 V R t G1 G2) : t = kC e1 CD := by
  cases CD with
  | none => exact (h.1 rfl).1
  | some E => exact (h.2 E rfl).1
theorem STEP.n {e1 : String} {V R : Int64} {t : Int32} {G1 G2 : Prop} (h : STEP none e1 V R t G1 G2) : V = R ∧ G1 := (h.1 rfl).2
theorem STEP.s {E e1 : String} {V R : Int64} {t : Int32} {G1 G2 : Prop} (h : STEP (some E) e1 V R t G1 G2) : G2 := (h.2 E rfl).2
theorem updL0 (fo : Nat → Int64) (x : Int64) : vp_updL fo 0 x 0 = x := by unfold vp_updL; exact if_pos rfl
theorem dcmp0 {x : UInt64} (h : FP.Core.val64 x ≠ .nan) : Op.cmpValue (FP.dcmp x x) .l = 0 := by
  have h1 : FP.dcmp x x = some .eq := FP.Core.dcmp_self h
  rw [h1]; rfl
theorem GB.by_ {ln : Nat} {f0 f : Nat → Int32} {z : Int32} (h : GB ln f0 z f) : ∀ i, i < ln → ¬ f0 i = -1 := by
  intro i hi e
  obtain ⟨-, b, hb, e2⟩ := h.2.2 i hi
  exact nI_nm1 (a := b) (by omega) (by rw [← e2, e])
theorem NV.st8 {o : Nat → Nat → Int32} {r : Nat → Int32} {N K C nt : Nat} (h : NV o r N K C nt) : ∀ k, k < N → ∃ q, q < 4 ∧ o 8 k = nI q := by
  intro k hk
  obtain ⟨q, hq, e⟩ := h.vi.st k hk
  exact ⟨q, hq, (h.ro.p k hk 4 (by decide)).trans e⟩
section LO
variable {p : Program} {l : Launch} {e : Env} {R : Room} {s : State} {m : MethodId} {args : Array Value} {below : List Frame} {meth : Method} {c : Code} {H : Heap} {locs : List Loc} {cells slots : Nat} {Q : State → Prop} {cc : ByteArray} {pc : Nat} {ls : Array Slot} {rest : List Value} {D : va_G} {T : Nat → ClassId} {ws : va_W}
theorem laldO {ob : Nat} {fo : Nat → Int64} {V : Int64} (hexec : p.tables.exec = Jvm.exec) (hb : c.code = cc) (hK : va_K D vwCl (tyL T) s) (hP : va_P D vwCl ((OUT T ob (vp_updL fo 0 V)) :: ws) H) (hdg : decode cc pc = .ok (.laload, 1))
    (kk : W p l e R s m args below meth c H locs cells slots Q (F0 m (pc + 1) ls (.long V :: rest))) : W p l e R s m args below meth c H locs cells slots Q (F0 m pc ls (.int 0 :: .ref ob :: rest)) := by
  refine va_lald hexec hb hK hP 0 3 rfl rfl (by unfold vp_in; decide) hdg ?_
  rw [show (0 : Int32).toNatClampNeg = 0 from by decide, updL0]
  exact kk
end LO
