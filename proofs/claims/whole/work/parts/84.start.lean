/-! THE CLAIM OUT OF ONE WALK OF THE LAW'S BODY. Your part is whole_start (and what it stands on); all else here is the same for every law, but numbers. -/
def R_law : String := "MoonComplaintWindowLaw"
def lw_P (b : Addr) (xs : List Int32) (args : Array Value) (s : State) : Prop := args = #[.ref b] ∧ s.IntsAt b xs ∧ xs.length ≤ 3072 ∧ (Jvm.Cond.and given_1 narrow_1).before args s = true
/-- what a walk over the start with the record d0 says of its end, said of the start itself -/
theorem lw_closed {s t : State} {o : Outcome} {d0 : Drawn} {L : List Loc} {k n : Nat} (hd0 : s.drawn.sameBut d0 lw_cs) (hv : ∃ v, o = .returned v) (hW : (s.setDrawn d0).WarmedH t.vm) (hs : (s.setDrawn d0).sameButNew ({ t with vm := s.vm } : State) L k n) : State.butDraws s t lw_cs (fun t1 => Framed s o t1 L k n) := by
  have h2 : t.drawn = d0 := congrArg State.drawn hs.1
  refine ⟨⟨hv, hW, State.sameButNew.setDrawn hs s.drawn⟩, ?_, by decide⟩
  rw [h2]
  exact hd0
def lw_Q (_ : Array Value) (s : State) (o : Outcome) (t : State) : Prop := o = .returned (some (.int 1)) ∧ State.butDraws s t lw_cs (fun t1 => Framed s o t1 [] 601024 7293034)
def lw_Z (below : List Frame) (a : Array Value) (s : State) : State → Prop := fun t => ∃ o, t.status = .running ∧ Ended t below o ∧ lw_Q a s o t
/-- the law's own end, with 1 on the stack, nothing written that was there before, its room as the claim has it; d0: the record of draws at this point (at the entry s.drawn: begin with 'refine W.base ?_' and 'have hd0 := Drawn.sameBut.refl s.drawn lw_cs') -/
theorem lw_ret {p : Program} {l : Launch} {e : Env} {s : State} {m : MethodId} {below : List Frame} {meth : Method} {c : Code} {b : Nat} {d0 : Drawn} (hd0 : s.drawn.sameBut d0 lw_cs) (hx : p.tables.exec = Jvm.exec) (hb : c.code = code) (hr : meth.sig.returnType = ret) (hlocks : meth.locks = false) {pc : Nat} {H : Heap} {ls : Array Slot} (hdg : decode code pc = .ok (.ireturn, 1)) : W p l e room_1 (s.setDrawn d0) m #[Value.ref b] below meth c H [] 601024 7293034 (lw_Z below #[Value.ref b] s) (F0 m pc ls [.int 1]) := by
  intro T hT X
  obtain ⟨fs, hret, hrun, hended, hW, hframe⟩ := X.leave (v := some (.int 1)) (hlocks := hlocks) (fun h => by rw [hr] at h; cases h)
  have hmeth' : T.vm.method? m = some meth := X.method'
  refine ⟨T.setFrames fs, ?_, .returned (some (.int 1)), hrun, hended, rfl, lw_closed hd0 ⟨_, rfl⟩ hW hframe⟩
  jvm_step X.here [X.here.top, hx, hb, hdg, hmeth', hr, ret, narrow_b1]
  (try refine ⟨rfl, ?_⟩); (try refine ⟨rfl, ?_⟩)
  first | (intro acts; rw [hret _ acts rfl rfl rfl]) | rw [hret _ _ rfl rfl rfl]
  exact Steps.refl _
/-- what holds at the law's entry: the machine, the code, the tables' words (any of lw_tbl by 'hts w (by decide +kernel)'), the script of L ints xs at the cell b, what the Statement gives of the start (any of its parts by flat_of_before) -/
def lw_At (p : Program) (s : State) (m : MethodId) (meth : Method) (c : Code) (b L : Nat) (xs : Nat → Int32) : Prop :=
  p.tables.exec = Jvm.exec ∧ c.code = code ∧ meth.sig.returnType = ret ∧ c.maxLocals = 9 ∧ s.vm.findClass R_law = some m.cls ∧ (∀ w ∈ lw_tbl, w.before #[Value.ref b] s = true) ∧ va_X b L xs s s.heap ∧ b < s.heap.size ∧ meth.locks = false ∧ (Jvm.Cond.and given_1 narrow_1).before #[Value.ref b] s = true
/-! the law's start -/
theorem PKC.blind (as : List Value) (D : va_G) (T : Nat → ClassId) (aK aV : Nat → Nat) (ws : va_W) (sz : Nat) : FrameBlind (va_Pc as (fun U => PS D T ws sz U ∧ (NX U ∧ CX aK aV (va_A ws sz) U U.heap))) := fun a U g mk q =>
  ⟨q.1, (PS.blind as D T ws sz a U g mk ⟨q.1, q.2.1⟩).2, NX.warm (U := U.calling g mk a) (State.WarmedH.refl U) q.2.2.1, CX.warm (U := U.calling g mk a) (State.WarmedH.refl U) q.2.2.2⟩
section WKC
variable {p : Program} {l : Launch} {e : Env} {R : Room} {s : State} {m : MethodId} {args : Array Value} {below : List Frame} {meth : Method} {c : Code} {H H0 : Heap} {locs : List Loc} {cells slots : Nat} {Q : State → Prop}
  {Ts wsy : List Cond} {cc bytes : ByteArray} {nL maxL index mc ms pc : Nat} {own host : String} {y : MethodName} {rm : Room} {rest st : List Value} {ls : Array Slot} {D : va_G} {T : Nat → ClassId} {ws : va_W} {A0 A : Nat → Prop} {aK aV : Nat → Nat}
theorem wrKC {S : Type} {px : S → Prop} {w1 : S → va_W} {q : Nat} {x : va_E} (S0 : CallFix p m c cc nL s args Ts own) (hM : Met l y wsy rm (va_Pc [.ref q] (fun U => PS D T [(q, x)] H.size U ∧ (NX U ∧ CX aK aV (va_A [(q, x)] H.size) U U.heap))) (va_Qv px (fun u t => QS D T (va_A [(q, x)] H.size) (w1 u) t) (va_A [(q, x)] H.size)) mc ms (va_A [(q, x)] H.size))
    (cw : CallB R s args own index y bytes maxL none wsy rm mc ms 0 ∧ y.name = "<init>" ∧ (Cond.instanceMethod y).before args s = true) (hN : NX s) (hC : CX aK aV A0 s H0) (hK : va_K D vwCl (tyL T) s) (hP : va_P D vwCl (ws ++ [(q, x)]) H) (hD : va_D A0 (ws ++ [(q, x)])) (hS : va_S A0 H0 H locs) (hA : ∀ q, H0.size ≤ q → A0 q)
    (hsize : ls.size = nL) (hst : st = .ref q :: rest) (hW : (rest.map fun v => v.category).sum ≤ 8) (hcs : cells + mc ≤ R.cells ∧ slots + ms ≤ R.slots) (hdg : decode cc pc = .ok (.invokespecial index, 3))
    (kk : ∀ (u : S) (H1 : Heap) (locs1 : List Loc), px u → va_P D vwCl (ws ++ w1 u) H1 → va_D A0 (ws ++ w1 u) → va_S A0 H0 H1 locs1 → W p l e R s m args below meth c H1 locs1 (cells + mc) (slots + ms) Q (F0 m (pc + 3) ls rest)) : W p l e R s m args below meth c H locs cells slots Q (F0 m pc ls st) := by
  have F0' := fun u => Foc.new ws (q, x) (w1 u)
  have hPc : va_P D vwCl [(q, x)] H := wP_mem.mpr fun z hz => wP_mem.mp hP z (List.mem_append_right _ hz)
  have hDc : va_D A0 [(q, x)] := wD_left (wD_perm List.perm_append_comm hD)
  have hFc : ∀ z, va_A [(q, x)] H.size z → A0 z := by
    intro z h
    rcases h with ⟨k, e, h⟩ | h
    · exact hDc.2 k (z, e) h
    · exact hA z (Nat.le_trans hS.1 h)
  refine va_callv (va_runI (As := []) S0 hM cw ⟨PKC.blind _ _ _ _ _ _ _, fun U hU hW => ⟨rfl, ⟨by rw [hU], by rw [hU]; exact hPc, va_K.moved hW.alike hK, hDc.weaken (fun _ _ _ _ => trivial)⟩, hN.warm hW, hC.call hS hFc hU hW⟩⟩ rfl rfl hsize hst (lv_room hW) hdg hcs) hS (fun q _ h => hFc q h) hFc (fun u t H1 locs1 ht hvm hw hB hz1 hk1 hS1 => ?_)
  obtain ⟨hP1, hK1, hD1⟩ := hB
  rw [ht] at hP1
  obtain ⟨g1, g2⟩ := (F0' u).join hP hD hk1 hFc hP1 hD1
  exact kk u H1 locs1 hw g1 g2 hS1
end WKC
theorem nul6 : ∀ j, j < 6 → defaultValue (tyX9 j) = vp_V [.null, .null, .null, .null, .null, .null] j := by decide +kernel
theorem nul19 : ∀ j, j < 19 → defaultValue (tyX10 j) = vp_V [.null, .null, .null, .null, .null, .null, .int 0, .null, .int 0, .int 0, .int 0, .int 0, .int 0, .int 0, .int 0, .long 0, .int 0, .null, .int 0] j := by decide +kernel
theorem noTrace {l : Launch} (h : l.flags = flags0) : l.stackTraces = false := by
  unfold Launch.stackTraces
  rw [h]
  decide +kernel
set_option maxHeartbeats 4000000 in
set_option maxRecDepth 100000 in
theorem whole_start {p : Program} {e : Env} {s : State} {m : MethodId} {below : List Frame} {meth : Method} {c : Code} (l : Launch) (hflags : l.flags = flags0) {b L : Nat} {xs : Nat → Int32} (hL : L ≤ 3072) (C0 : lw_At p s m meth c b L xs) : W p l e room_1 s m #[Value.ref b] below meth c s.heap [] 0 0 (lw_Z below #[Value.ref b] s) (entryFrame m ([Value.ref b] : List Value).toArray 9) := by
  obtain ⟨hx, hb0, hr, hml, hown, hts, hX, hsc, hlocks, hg⟩ := C0
  have hb : c.code = cL_law := hb0
  have hown : s.vm.findClass RL = some m.cls := hown
  have hl9 : l.stackTraces = false := noTrace hflags
  have hn1 : narrow_1.before #[Value.ref b] s = true := an_r hg
  obtain ⟨D, T, hK⟩ := k_start hts
  obtain ⟨A, hA, hA1⟩ : ∃ A : Nat → Prop, (∀ q : Nat, s.heap.size ≤ q → A q) ∧ ∀ a : Nat, A a → s.heap.size ≤ a := ⟨fun q => s.heap.size ≤ q, fun q h => h, fun q h => h⟩
  have hA' : ∀ a : Nat, a < s.heap.size → ¬ A a := fun a h q => absurd (hA1 a q) (Nat.not_le_of_lt h)
  obtain ⟨aK, aV, hC⟩ := cx_start (A := A) hts hn1 hA'
  have hNX := nx_start hts
  have hN := ncx_start hn1
  have hend : ∀ (H : Heap) (locs : List Loc) (ls : Array Slot), va_S A s.heap H locs → W p l e room_1 s m #[Value.ref b] below meth c H locs 601024 7293034 (lw_Z below #[Value.ref b] s) (F0 m 3245 ls []) := by
    intro H locs ls hS
    refine lv_iconst (v := 1) hx hb dL_law_3245 (by decide) ?_
    refine va_forget (fun q h => hA1 _ (hS.2.2 q h)) ?_
    refine W.base ?_
    exact lw_ret (Drawn.sameBut.refl s.drawn lw_cs) hx hb0 hr hlocks dL_law_3246
  have hl : lv_has ((lg_sl [Value.ref b] ++ List.replicate (9 - (lg_sl [Value.ref b]).length) Slot.unset).toArray) 9 [(0, .ref b)] := lv_entry [Value.ref b] (n := 9) (Nat.le_of_ble_eq_true rfl)
  rw [lg_entry_eq]
  have hS : va_S A s.heap s.heap [] := va_S.rf
  have hP : va_P D vwCl [] s.heap := wP_mem.mpr (fun q h => absurd h List.not_mem_nil)
  have hD : va_D A [] := wD_mem.mpr ⟨List.nodup_nil, fun q h => absurd h List.not_mem_nil⟩
  refine va_new (ci := 9) (fs := [.null, .null, .null, .null, .null, .null]) (C := RX9) (T := TX9) (N := 6) hx hb hts (fun w hw => (gw_wsX90 w hw).1) tyX9 tyX9_ok hown (hts _ mw_1603) (hts _ mw_1604) (hts _ mw_100) hK hP hD hS hA rfl nul6 (Nat.le_of_ble_eq_true rfl) (Nat.le_of_ble_eq_true rfl) dL_law_0 (fun q0 H hP hD hS => ?_)
  refine lv_dup hx hb dL_law_3 rfl ?_
  refine wrKC (ws := []) (rest := [.ref q0]) ⟨hx, hb, hml, hown, hts⟩ (c_X9_init l D T aK aV q0 _) (cwI 0 hts gw_wsX9_init rfl rfl rfl (hts _ mw_100) (hts _ mw_1608) (hts _ mw_1609) rfl (by decide +kernel) ⟨Nat.le_of_ble_eq_true rfl, Nat.le_of_ble_eq_true rfl⟩) hNX hC hK hP hD hS hA hl.1 rfl (Nat.le_of_ble_eq_true rfl) ⟨Nat.le_of_ble_eq_true rfl, Nat.le_of_ble_eq_true rfl⟩ dL_law_4 (fun u H locs hu hP5 hD5 hS5 => ?_)
  obtain ⟨v, B⟩ := u
  have hu : v 0 = q0 := hu
  subst hu
  have hP : va_P D vwCl (WIN T v B O0C g0C 0 0 0 0 (txL 124) (fun _ => 0) (fun _ => 0)) H := hP5
  have hD : va_D A (WIN T v B O0C g0C 0 0 0 0 (txL 124) (fun _ => 0) (fun _ => 0)) := hD5
  have hS := hS5
  refine lv_astore_n (lv' := [(1, .ref (v 0)), (0, .ref b)]) hx hb dL_law_7 rfl hl (by decide) rfl (fun ls hl => ?_)
  refine va_new (ci := 10) (fs := [.null, .null, .null, .null, .null, .null, .int 0, .null, .int 0, .int 0, .int 0, .int 0, .int 0, .int 0, .int 0, .long 0, .int 0, .null, .int 0]) (C := RX10) (T := TX10) (N := 19) hx hb hts (fun w hw => (gw_wsX100 w hw).1) tyX10 tyX10_ok hown (hts _ mw_1605) (hts _ mw_1606) (hts _ mw_213) hK hP hD hS hA rfl nul19 (Nat.le_of_ble_eq_true rfl) (Nat.le_of_ble_eq_true rfl) dL_law_8 (fun q1 H hP hD hS => ?_)
  refine lv_dup hx hb dL_law_11 rfl ?_
  refine wrK0 (ws := WIN T v B O0C g0C 0 0 0 0 (txL 124) (fun _ => 0) (fun _ => 0)) (rest := [.ref q1]) ⟨hx, hb, hml, hown, hts⟩ (c_X10_init l D T q1 _) (cwI 0 hts gw_wsX10_init rfl rfl rfl (hts _ mw_213) (hts _ mw_1610) (hts _ mw_1611) rfl (by decide +kernel) ⟨Nat.le_of_ble_eq_true rfl, Nat.le_of_ble_eq_true rfl⟩) hNX hK hP hD hS hA hl.1 rfl (Nat.le_of_ble_eq_true rfl) ⟨Nat.le_of_ble_eq_true rfl, Nat.le_of_ble_eq_true rfl⟩ dL_law_12 (fun b1 H locs hu hP5 hD5 hS5 => ?_)
  have hu : b1 0 = q1 := hu
  subst hu
  have hP := hP5
  have hD := hD5
  have hS := hS5
  refine lv_astore_n (lv' := [(2, .ref (b1 0)), (1, .ref (v 0)), (0, .ref b)]) hx hb dL_law_15 rfl hl (by decide) rfl (fun ls hl => ?_)
  refine lv_iconst (v := 1) hx hb dL_law_16 (by decide) ?_
  refine newL (N' := 1) hx hb (hts _ mx_1300) hK hP hD hS hA (by decide) (by decide) (by decide) (Nat.le_of_ble_eq_true rfl) (Nat.le_of_ble_eq_true rfl) dL_law_17 (fun ob H hP hD hS => ?_)
  have hP : va_P D vwCl ((OUT T ob (fun _ => 0) :: WIN T v B O0C g0C 0 0 0 0 (txL 124) (fun _ => 0) (fun _ => 0)) ++ REF T b1 yI0 0) H := wP_perm (List.perm_append_singleton _ _) hP
  have hD : va_D A ((OUT T ob (fun _ => 0) :: WIN T v B O0C g0C 0 0 0 0 (txL 124) (fun _ => 0) (fun _ => 0)) ++ REF T b1 yI0 0) := wD_perm (List.perm_append_singleton _ _) hD
  refine lv_astore_n (lv' := [(3, .ref ob), (2, .ref (b1 0)), (1, .ref (v 0)), (0, .ref b)]) hx hb dL_law_19 rfl hl (by decide) rfl (fun ls hl => ?_)
  refine lv_iconst (v := 0) hx hb dL_law_20 (by decide) ?_
  refine lv_istore (lv' := [(4, .int 0), (3, .ref ob), (2, .ref (b1 0)), (1, .ref (v 0)), (0, .ref b)]) hx hb dL_law_21 hl (by decide) rfl (fun ls hl => ?_)
  exact loopX (sc := b) (xs := xs) ⟨hl9, hx, hb, hml, hown, hts, hX, hsc, hA' b hsc, hA, hC, hN, hK, hL⟩ hend 512 0 (by omega) (by omega) (Nat.le_of_ble_eq_true rfl) (Nat.le_of_ble_eq_true rfl) ⟨O0C, g0C, 0, 0, 0, 0, txL 124, fun _ => 0, fun _ => 0, yI0, 0, fun _ => 0, hP, hD, hS, gi_0, lv_sub hl [4, 3, 2, 1, 0] rfl⟩
