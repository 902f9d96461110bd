/-! THE CLAIM OUT OF ONE WALK OF THE LAW'S BODY. Your part is whole_start (and what it stands on); all else here is the same for every law, but numbers. -/
def R_law : String := "MoonComplaintWindowLaw"
def lw_P (b : Addr) (xs : List Int32) (args : Array Value) (s : State) : Prop := args = #[.ref b] ∧ s.IntsAt b xs ∧ xs.length ≤ 260 ∧ (Jvm.Cond.and given_1 narrow_1).before args s = true
/-- what a walk over the start with the record d0 says of its end, said of the start itself -/
theorem lw_closed {s t : State} {o : Outcome} {d0 : Drawn} {L : List Loc} {k n : Nat} (hd0 : s.drawn.sameBut d0 lw_cs) (hv : ∃ v, o = .returned v) (hW : (s.setDrawn d0).WarmedH t.vm) (hs : (s.setDrawn d0).sameButNew ({ t with vm := s.vm } : State) L k n) : State.butDraws s t lw_cs (fun t1 => Framed s o t1 L k n) := by
  have h2 : t.drawn = d0 := congrArg State.drawn hs.1
  refine ⟨⟨hv, hW, State.sameButNew.setDrawn hs s.drawn⟩, ?_, by decide⟩
  rw [h2]
  exact hd0
def lw_Q (_ : Array Value) (s : State) (o : Outcome) (t : State) : Prop := o = .returned (some (.int 1)) ∧ State.butDraws s t lw_cs (fun t1 => Framed s o t1 [] 679962 7061811)
def lw_Z (below : List Frame) (a : Array Value) (s : State) : State → Prop := fun t => ∃ o, t.status = .running ∧ Ended t below o ∧ lw_Q a s o t
/-- the law's own end, with 1 on the stack, nothing written that was there before, its room as the claim has it; d0: the record of draws at this point (at the entry s.drawn: begin with 'refine W.base ?_' and 'have hd0 := Drawn.sameBut.refl s.drawn lw_cs') -/
theorem lw_ret {p : Program} {l : Launch} {e : Env} {s : State} {m : MethodId} {below : List Frame} {meth : Method} {c : Code} {b : Nat} {d0 : Drawn} (hd0 : s.drawn.sameBut d0 lw_cs) (hx : p.tables.exec = Jvm.exec) (hb : c.code = code) (hr : meth.sig.returnType = ret) (hlocks : meth.locks = false) {pc : Nat} {H : Heap} {ls : Array Slot} (hdg : decode code pc = .ok (.ireturn, 1)) : W p l e room_1 (s.setDrawn d0) m #[Value.ref b] below meth c H [] 679962 7061811 (lw_Z below #[Value.ref b] s) (F0 m pc ls [.int 1]) := by
  intro T hT X
  obtain ⟨fs, hret, hrun, hended, hW, hframe⟩ := X.leave (v := some (.int 1)) (hlocks := hlocks) (fun h => by rw [hr] at h; cases h)
  have hmeth' : T.vm.method? m = some meth := X.method'
  refine ⟨T.setFrames fs, ?_, .returned (some (.int 1)), hrun, hended, rfl, lw_closed hd0 ⟨_, rfl⟩ hW hframe⟩
  jvm_step X.here [X.here.top, hx, hb, hdg, hmeth', hr, ret, narrow_b1]
  (try refine ⟨rfl, ?_⟩); (try refine ⟨rfl, ?_⟩)
  first | (intro acts; rw [hret _ acts rfl rfl rfl]) | rw [hret _ _ rfl rfl rfl]
  exact Steps.refl _
/-- what holds at the law's entry: the machine, the code, the tables' words (any of lw_tbl by 'hts w (by decide +kernel)'), the script of L ints xs at the cell b, what the Statement gives of the start (any of its parts by flat_of_before) -/
def lw_At (p : Program) (s : State) (m : MethodId) (meth : Method) (c : Code) (b L : Nat) (xs : Nat → Int32) : Prop :=
  p.tables.exec = Jvm.exec ∧ c.code = code ∧ meth.sig.returnType = ret ∧ c.maxLocals = 7 ∧ s.vm.findClass R_law = some m.cls ∧ (∀ w ∈ lw_tbl, w.before #[Value.ref b] s = true) ∧ va_X b L xs s s.heap ∧ b < s.heap.size ∧ meth.locks = false ∧ (Jvm.Cond.and given_1 narrow_1).before #[Value.ref b] s = true
theorem PKC.blind (as : List Value) (D : va_G) (T : Nat → ClassId) (aK aV : Nat → Nat) (ws : va_W) (sz : Nat) : FrameBlind (va_Pc as (fun U => PS D T ws sz U ∧ (NX U ∧ CX aK aV (va_A ws sz) U U.heap))) := fun a U g mk q =>
  ⟨q.1, (PS.blind as D T ws sz a U g mk ⟨q.1, q.2.1⟩).2, NX.warm (U := U.calling g mk a) (State.WarmedH.refl U) q.2.2.1, CX.warm (U := U.calling g mk a) (State.WarmedH.refl U) q.2.2.2⟩
section WKC
variable {p : Program} {l : Launch} {e : Env} {R : Room} {s : State} {m : MethodId} {args : Array Value} {below : List Frame} {meth : Method} {c : Code} {H H0 : Heap} {locs : List Loc} {cells slots : Nat} {Q : State → Prop}
  {Ts wsy : List Cond} {cc bytes : ByteArray} {nL maxL index mc ms pc : Nat} {own host : String} {y : MethodName} {rm : Room} {rest st : List Value} {ls : Array Slot} {D : va_G} {T : Nat → ClassId} {ws : va_W} {A0 A : Nat → Prop} {aK aV : Nat → Nat}
theorem wrKC {S : Type} {px : S → Prop} {w1 : S → va_W} {q : Nat} {x : va_E} (S0 : CallFix p m c cc nL s args Ts own) (hM : Met l y wsy rm (va_Pc [.ref q] (fun U => PS D T [(q, x)] H.size U ∧ (NX U ∧ CX aK aV (va_A [(q, x)] H.size) U U.heap))) (va_Qv px (fun u t => QS D T (va_A [(q, x)] H.size) (w1 u) t) (va_A [(q, x)] H.size)) mc ms (va_A [(q, x)] H.size))
    (cw : CallB R s args own index y bytes maxL none wsy rm mc ms 0 ∧ y.name = "<init>" ∧ (Cond.instanceMethod y).before args s = true) (hN : NX s) (hC : CX aK aV A0 s H0) (hK : va_K D vwCl (tyL T) s) (hP : va_P D vwCl (ws ++ [(q, x)]) H) (hD : va_D A0 (ws ++ [(q, x)])) (hS : va_S A0 H0 H locs) (hA : ∀ q, H0.size ≤ q → A0 q)
    (hsize : ls.size = nL) (hst : st = .ref q :: rest) (hW : (rest.map fun v => v.category).sum ≤ 8) (hcs : cells + mc ≤ R.cells ∧ slots + ms ≤ R.slots) (hdg : decode cc pc = .ok (.invokespecial index, 3))
    (kk : ∀ (u : S) (H1 : Heap) (locs1 : List Loc), px u → va_P D vwCl (ws ++ w1 u) H1 → va_D A0 (ws ++ w1 u) → va_S A0 H0 H1 locs1 → W p l e R s m args below meth c H1 locs1 (cells + mc) (slots + ms) Q (F0 m (pc + 3) ls rest)) : W p l e R s m args below meth c H locs cells slots Q (F0 m pc ls st) := by
  have F0' := fun u => Foc.new ws (q, x) (w1 u)
  have hPc : va_P D vwCl [(q, x)] H := wP_mem.mpr fun z hz => wP_mem.mp hP z (List.mem_append_right _ hz)
  have hDc : va_D A0 [(q, x)] := wD_left (wD_perm List.perm_append_comm hD)
  have hFc : ∀ z, va_A [(q, x)] H.size z → A0 z := by
    intro z h
    rcases h with ⟨k, e, h⟩ | h
    · exact hDc.2 k (z, e) h
    · exact hA z (Nat.le_trans hS.1 h)
  refine va_callv (va_runI (As := []) S0 hM cw ⟨PKC.blind _ _ _ _ _ _ _, fun U hU hW => ⟨rfl, ⟨by rw [hU], by rw [hU]; exact hPc, va_K.moved hW.alike hK, hDc.weaken (fun _ _ _ _ => trivial)⟩, hN.warm hW, hC.call hS hFc hU hW⟩⟩ rfl rfl hsize hst (lv_room hW) hdg hcs) hS (fun q _ h => hFc q h) hFc (fun u t H1 locs1 ht hvm hw hB hz1 hk1 hS1 => ?_)
  obtain ⟨hP1, hK1, hD1⟩ := hB
  rw [ht] at hP1
  obtain ⟨g1, g2⟩ := (F0' u).join hP hD hk1 hFc hP1 hD1
  exact kk u H1 locs1 hw g1 g2 hS1
end WKC
theorem nul6 : ∀ j, j < 6 → defaultValue (tyX9 j) = vp_V [.null, .null, .null, .null, .null, .null] j := by decide +kernel
theorem noTrace {l : Launch} (h : l.flags = flags0) : l.stackTraces = false := by
  unfold Launch.stackTraces
  rw [h]
  decide +kernel
theorem and31 (y : Int32) : ∃ n, n < 2 ^ 31 ∧ y &&& 2147483647 = nI n := by
  refine ⟨y.toBitVec.toNat % 2 ^ 31, Nat.mod_lt _ (by decide), ?_⟩
  have e : y = nI y.toBitVec.toNat := by
    apply Int32.toBitVec_inj.mp
    show y.toBitVec = BitVec.ofNat 32 y.toBitVec.toNat
    simp
  have hlt : y.toBitVec.toNat < 2 ^ 32 := y.toBitVec.isLt
  have h9 := pk_andN (n := y.toBitVec.toNat) (m := 2147483647) (by omega) 31 (by decide +kernel)
  rw [← e] at h9
  exact h9
set_option maxHeartbeats 4000000 in
set_option maxRecDepth 100000 in
theorem whole_start {p : Program} {e : Env} {s : State} {m : MethodId} {below : List Frame} {meth : Method} {c : Code} (l : Launch) (hflags : l.flags = flags0) {b L : Nat} {xs : Nat → Int32} (hL : L ≤ 260) (C0 : lw_At p s m meth c b L xs) : W p l e room_1 s m #[Value.ref b] below meth c s.heap [] 0 0 (lw_Z below #[Value.ref b] s) (entryFrame m ([Value.ref b] : List Value).toArray 7) := by
  obtain ⟨hx, hb0, hr, hml, hown, hts, hXs, hbl, hlocks, hg⟩ := C0
  have hb : c.code = cL_law := hb0
  have hown : s.vm.findClass RL = some m.cls := hown
  have hl9 : l.stackTraces = false := noTrace hflags
  have hn1 : narrow_1.before #[Value.ref b] s = true := an_r hg
  have htsJ := sel_start hts
  obtain ⟨D, T, hK⟩ := k_start hts
  obtain ⟨A, hA, hA1⟩ : ∃ A : Nat → Prop, (∀ q : Nat, s.heap.size ≤ q → A q) ∧ ∀ a : Nat, A a → s.heap.size ≤ a := ⟨fun q => s.heap.size ≤ q, fun q h => h, fun q h => h⟩
  have hA' : ∀ a : Nat, a < s.heap.size → ¬ A a := fun a h q => absurd (hA1 a q) (Nat.not_le_of_lt h)
  have hbA : ¬ A b := hA' b hbl
  obtain ⟨aK, aV, hC⟩ := cx_start (A := A) hts hn1 hA'
  obtain ⟨x, hX⟩ := jx_start (A := A) hts hn1 hA'
  have hNX := nx_start hts
  have hN := ncx_start hn1
  have hend : ∀ (H : Heap) (locs : List Loc) (ls : Array Slot), va_S A s.heap H locs → W p l e room_1 s m #[Value.ref b] below meth c H locs 679962 7061811 (lw_Z below #[Value.ref b] s) (F0 m 364 ls [.int 1]) := by
    intro H locs ls hS
    refine va_forget (fun q h => hA1 _ (hS.2.2 q h)) ?_
    refine W.base ?_
    exact lw_ret (Drawn.sameBut.refl s.drawn lw_cs) hx hb0 hr hlocks dL_law_364
  have hl : lv_has ((lg_sl [Value.ref b] ++ List.replicate (7 - (lg_sl [Value.ref b]).length) Slot.unset).toArray) 7 [(0, .ref b)] := lv_entry [Value.ref b] (n := 7) (Nat.le_of_ble_eq_true rfl)
  rw [lg_entry_eq]
  have hS : va_S A s.heap s.heap [] := va_S.rf
  have hP : va_P D vwCl [] s.heap := wP_mem.mpr (fun q h => absurd h List.not_mem_nil)
  have hD : va_D A [] := wD_mem.mpr ⟨List.nodup_nil, fun q h => absurd h List.not_mem_nil⟩
  refine lv_bipush (v := 6) hx hb dL_law_0 (by decide) ?_
  refine newI hx hb (hts _ mw_126) hK hP hD hS hA (n := 6) (N' := 6) (by decide) (by decide) (by decide) (Nat.le_of_ble_eq_true rfl) (Nat.le_of_ble_eq_true rfl) dL_law_2 (fun q2 H hP hD hS => ?_)
  have hP : va_P D vwCl [(q2, .inl (T 0, 6, .inl (fun _ => 0)))] H := hP
  have hD : va_D A [(q2, .inl (T 0, 6, .inl (fun _ => 0)))] := hD
  refine lv_astore_n (lv' := [(1, .ref q2), (0, .ref b)]) hx hb dL_law_4 rfl hl (by decide) rfl (fun ls hl => ?_)
  refine lv_iconst (v := 0) hx hb dL_law_5 (by decide) ?_
  refine lv_istore_n (lv' := [(2, .int (nI 0)), (1, .ref q2), (0, .ref b)]) hx hb dL_law_6 rfl hl (by decide) rfl (fun ls hl => ?_)
  have hgo : ∀ (f6 : Nat → Int32), (∀ i, i < 6 → ∃ n, n < 2 ^ 31 ∧ f6 i = nI n) → ∀ (H : Heap) (locs : List Loc) (ls : Array Slot), va_P D vwCl [(q2, .inl (T 0, 6, .inl f6))] H → va_D A [(q2, .inl (T 0, 6, .inl f6))] → va_S A s.heap H locs → lv_has ls 7 [(1, .ref q2), (0, .ref b)] → W p l e room_1 s m #[Value.ref b] below meth c H locs (0 + 1) (0 + 6) (lw_Z below #[Value.ref b] s) (F0 m 35 ls []) := by
    intro f6 h6 H locs ls hP hD hS hl
    refine va_new (ci := 9) (fs := [.null, .null, .null, .null, .null, .null]) (C := RX9) (T := TX9) (N := 6) hx hb htsJ (fun w hw => ((gJ_up gw_wsX90) w hw).1) tyX9 tyX9_ok hown (hts _ mw_1163) (hts _ mw_1164) (hts _ mw_650) hK hP hD hS hA rfl nul6 (Nat.le_of_ble_eq_true rfl) (Nat.le_of_ble_eq_true rfl) dL_law_35 (fun q0 H hP hD hS => ?_)
    refine lv_dup hx hb dL_law_38 rfl ?_
    refine wrKC (ws := [(q2, .inl (T 0, 6, .inl f6))]) (rest := [.ref q0]) ⟨hx, hb, hml, hown, htsJ⟩ (c_X9_init l D T aK aV q0 _) (cwI 0 htsJ (gJ_up gw_wsX9_init) rfl rfl rfl (hts _ mw_650) (hts _ mw_1165) (hts _ mw_1166) rfl (by decide +kernel) ⟨Nat.le_of_ble_eq_true rfl, Nat.le_of_ble_eq_true rfl⟩) hNX hC hK hP hD hS hA hl.1 rfl (Nat.le_of_ble_eq_true rfl) ⟨Nat.le_of_ble_eq_true rfl, Nat.le_of_ble_eq_true rfl⟩ dL_law_39 (fun u H locs hu hP5 hD5 hS5 => ?_)
    obtain ⟨v, B⟩ := u
    have hu : v 0 = q0 := hu
    subst hu
    have hP : va_P D vwCl ((q2, .inl (T 0, 6, .inl f6)) :: WIN T v B O0C g0C 0 0 0 0 (txL 124) (fun _ => 0) (fun _ => 0)) H := hP5
    have hD : va_D A ((q2, .inl (T 0, 6, .inl f6)) :: WIN T v B O0C g0C 0 0 0 0 (txL 124) (fun _ => 0) (fun _ => 0)) := hD5
    refine lv_astore_n (lv' := [(2, .ref (v 0)), (1, .ref q2), (0, .ref b)]) hx hb dL_law_42 rfl hl (by decide) rfl (fun ls hl => ?_)
    exact law_body l hl9 D T aK aV x hx hb hml hown htsJ hN hC hX hK hA hend v B O0C g0C 0 (txL 124) (fun _ => 0) (fun _ => 0) q2 b f6 h6 (by rw [O0_0]; exact d0_ov) gw_first g0_ok rfl rfl find_first _ _ (by omega) (by omega) _ _ _ hP hD hS5 hl
  have L7 : ∀ (n9 i : Nat) (f6 : Nat → Int32), 6 - i < n9 → i ≤ 6 → (∀ i, i < 6 → ∃ n, n < 2 ^ 31 ∧ f6 i = nI n) → ∀ (H : Heap) (locs : List Loc) (ls : Array Slot), va_P D vwCl [(q2, .inl (T 0, 6, .inl f6))] H → va_D A [(q2, .inl (T 0, 6, .inl f6))] → va_S A s.heap H locs → lv_has ls 7 [(2, .int (nI i)), (1, .ref q2), (0, .ref b)] → W p l e room_1 s m #[Value.ref b] below meth c H locs (0 + 1) (0 + 6) (lw_Z below #[Value.ref b] s) (F0 m 7 ls []) := by
    intro n9
    induction n9 with
    | zero => intro i f6 h; exact absurd h (Nat.not_lt_zero _)
    | succ n9 ih =>
      intro i f6 hm9 hi6 h6 H locs ls hP hD hS hl
      refine lv_iload_n hx hb dL_law_7 rfl (lv_at hl 0 rfl) ?_
      refine lv_bipush (v := 6) hx hb dL_law_8 (by decide) ?_
      refine lv_icmp_ge (tgt := 35) hx hb dL_law_10 (by decide) (fun c10 => ?_) (fun c10 => ?_)
      · exact hgo f6 h6 _ _ _ hP hD hS (lv_sub hl [1, 2] rfl)
      have c10 : ¬ 6 ≤ i := fun h9 => c10 ((nI_leI (a := 6) (b := i) (by decide) (by omega)).mpr h9)
      refine lv_iload_n hx hb dL_law_13 rfl (lv_at hl 0 rfl) ?_
      refine lv_aload_n hx hb dL_law_14 rfl (lv_at hl 2 rfl) ?_
      refine va_slen hx hb hXs hbl hbA hS dL_law_15 ?_
      refine lv_icmp_ge (tgt := 35) hx hb dL_law_16 (by decide) (fun c16 => ?_) (fun c16 => ?_)
      · exact hgo f6 h6 _ _ _ hP hD hS (lv_sub hl [1, 2] rfl)
      have c16 : ¬ L ≤ i := fun h9 => c16 ((nI_leI (a := L) (b := i) (by omega) (by omega)).mpr h9)
      refine lv_aload_n hx hb dL_law_19 rfl (lv_at hl 1 rfl) ?_
      refine lv_iload_n hx hb dL_law_20 rfl (lv_at hl 0 rfl) ?_
      refine lv_aload_n hx hb dL_law_21 rfl (lv_at hl 2 rfl) ?_
      refine lv_iload_n hx hb dL_law_22 rfl (lv_at hl 0 rfl) ?_
      refine va_sld hx hb hXs hbl hbA hS (vp_in_nI (n := i) (by omega) (by omega)) dL_law_23 ?_
      refine lv_ldcw (v := 2147483647) hx hb hown (hts _ mw_1162) dL_law_24 ?_
      refine lv_iand hx hb dL_law_27 ?_
      obtain ⟨nx, hnx, enx⟩ := and31 (xs (nI i).toNatClampNeg)
      refine endI (r := nI nx) enx ?_
      refine astI hx hb hK hP hD hS 0 0 rfl rfl i rfl (by omega) (by decide) dL_law_28 (fun H locs hP hD hS => ?_)
      have hP : va_P D vwCl [(q2, .inl (T 0, 6, .inl (va_up f6 i (nI nx))))] H := hP
      have hD : va_D A [(q2, .inl (T 0, 6, .inl (va_up f6 i (nI nx))))] := hD
      refine lv_iinc (v := nI (i + 1)) (lv' := [(2, .int (nI (i + 1))), (1, .ref q2), (0, .ref b)]) hx hb dL_law_29 hl (k := 0) rfl (nI_add _ _) (by decide) rfl (fun ls hl => ?_)
      refine lv_goto (tgt := 7) hx hb dL_law_32 (by decide) ?_
      refine ih (i + 1) (va_up f6 i (nI nx)) (by omega) (by omega) (fun j hj => ?_) _ _ _ hP hD hS hl
      by_cases e9 : j = i
      · exact ⟨nx, hnx, if_pos e9⟩
      · obtain ⟨n8, h8, e8⟩ := h6 j hj
        exact ⟨n8, h8, (if_neg e9).trans e8⟩
  exact L7 7 0 (fun _ => 0) (by decide) (by decide) (fun i _ => ⟨0, by decide, rfl⟩) _ _ _ hP hD hS hl
