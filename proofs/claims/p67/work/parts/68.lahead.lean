/-! ahead, asked -/
section LQX
variable {p : Program} {l : Launch} {e : Env} {R : Room} {s : State} {m : MethodId} {args : Array Value} {below : List Frame} {meth : Method} {c : Code} {H H0 : Heap} {locs : List Loc} {cells slots : Nat} {Q : State → Prop}
  {Ts wsy : List Cond} {cc bytes : ByteArray} {nL maxL index n mc ms pc : Nat} {own : String} {y : MethodName} {ret : Option FieldType} {rm : Room} {As rest st : List Value} {ls : Array Slot} {hh : List (Nat × Nat × Nat × Nat)}
  {D : va_G} {T : Nat → ClassId} {ws wc : va_W} {A0 : Nat → Prop} {aK aV : Nat → Nat}
theorem lqXi {r : Int32} (S0 : CallFix p m c cc nL s args Ts own) (hM : Met l y wsy rm (va_Pc As (LWP D T aK aV wc H.size)) (va_Qi (fun r' (_ : Unit) => r' = r) (fun _ t => QS D T (va_A wc H.size) wc t) (va_A wc H.size)) mc ms (va_A wc H.size)) (cw : vx_CSW R s args own index y bytes maxL ret hh wsy rm mc ms n)
    (F : Foc ws wc ws wc) (hC : CX aK aV A0 s H0) (hNC : NCX s) (hK : va_K D vwCl (tyL T) s) (hP : va_P D vwCl ws H) (hD : va_D A0 ws) (hS : va_S A0 H0 H locs) (hA : ∀ q, H0.size ≤ q → A0 q)
    (hn : As.length = n) (hsize : ls.size = nL) (hst : st = As.reverse ++ rest) (hW : (rest.map fun v => v.category).sum ≤ 8) (hcs : cells + mc ≤ R.cells ∧ slots + ms ≤ R.slots) (hdg : decode cc pc = .ok (.invokestatic index, 3))
    (kk : ∀ (H1 : Heap) (locs1 : List Loc), va_P D vwCl ws H1 → va_D A0 ws → va_S A0 H0 H1 locs1 → W p l e R s m args below meth c H1 locs1 (cells + mc) (slots + ms) Q (F0 m (pc + 3) ls (.int r :: rest))) : W p l e R s m args below meth c H locs cells slots Q (F0 m pc ls st) :=
  lcXi (ws1 := fun _ => ws) (wc1 := fun _ => wc) S0 hM cw (fun _ => F) F hC hNC hK hP hD hS hA hn hsize hst hW hcs hdg (fun r1 u H1 locs1 hr h1 h2 h3 => by subst hr; exact kk H1 locs1 h1 h2 h3)
end LQX
theorem work_nn {N j : Nat} {bits cost : Int32} : ∀ (n : Nat) (x : Int32) (o : Nat → Nat → Int32), ∃ a, a ≤ n ∧ (workC N j bits cost n x o).1 = x + nI a
  | 0, x, o => ⟨0, Nat.le_refl _, (Int32.add_zero x).symm⟩
  | n + 1, x, o => by
    by_cases hl : o 3 j < cost
    · rw [workC_lt hl]; exact ⟨0, Nat.zero_le _, (Int32.add_zero x).symm⟩
    · cases hm : mostC o bits N with
      | some q =>
        rw [workC_some hl hm]
        obtain ⟨a, h1, h2⟩ := work_nn n (x + 1) (burnC (pileClose o q 1 (o 0 0) (nI j)) j cost)
        refine ⟨a + 1, by omega, h2.trans ?_⟩
        rw [Int32.add_assoc, show (1 : Int32) + nI a = nI (1 + a) from nI_add 1 a, Nat.add_comm]
      | none =>
        cases hf : firstC o (o 0 0 - 14) N with
        | some q =>
          rw [workC_old hl hm hf]
          obtain ⟨a, h1, h2⟩ := work_nn n x (burnC (pileClose o q 2 (o 0 0) (nI j)) j cost)
          exact ⟨a, by omega, h2⟩
        | none => rw [workC_none hm hf]; exact ⟨0, Nat.zero_le _, (Int32.add_zero x).symm⟩
theorem night_nn {o : Nat → Nat → Int32} {N K C nt : Nat} (h : OV o N K C nt) : ∃ a, a ≤ 20 ∧ (nightC N K C nt o).1 = nI a := by
  have hK := h.K5
  have hSK := h.oi.2.2.2.2.2.2.2.2.2
  show ∃ a, a ≤ 20 ∧ (iter (clerksC N (bitsC C nt o) (costC C nt o)) K 0 (0, o)).1 = nI a
  have key := iter_inv (f := clerksC N (bitsC C nt o) (costC C nt o)) (fun k (s : Int32 × (Nat → Nat → Int32)) => (∃ a, a ≤ 4 * k ∧ s.1 = nI a) ∧ s.2 2 = o 2) (n := K) (i := 0) (x := (0, o)) ⟨⟨0, Nat.zero_le _, rfl⟩, rfl⟩ (by
    rintro k ⟨x, o1⟩ - hk ⟨⟨a, h1, h2⟩, h3⟩
    have h2 : x = nI a := h2
    have h3 : o1 2 = o 2 := h3
    obtain ⟨S, hS, hS2⟩ := hSK k (by omega)
    obtain ⟨b, b1, b2⟩ := work_nn (N := N) (j := k) (bits := bitsC C nt o) (cost := costC C nt o) (1 + o1 2 k / 3).toNatClampNeg 0 o1
    have hn : (1 + o1 2 k / 3).toNatClampNeg ≤ 4 := by
      rw [h3, hS2, show nI S / 3 = nI (S / 3) from pk_div (d := 3) (by omega) (by decide) (by decide), show (1 : Int32) + nI (S / 3) = nI (1 + S / 3) from nI_add 1 _, nI_clamp (by omega)]
      omega
    refine ⟨⟨a + b, by omega, ?_⟩, ?_⟩
    · show x + (workC N k (bitsC C nt o) (costC C nt o) (1 + o1 2 k / 3).toNatClampNeg 0 o1).1 = nI (a + b)
      rw [b2, h2, Int32.zero_add, nI_add]
    · exact (workC_keep (N := N) (j := k) (bits := bitsC C nt o) (cost := costC C nt o) (n := (1 + o1 2 k / 3).toNatClampNeg) (x := 0) (o := o1)).1.trans h3)
  obtain ⟨⟨a, h1, h2⟩, -⟩ := key
  exact ⟨a, by omega, h2⟩
theorem ends_n {N K C nt : Nat} : ∀ (n i : Nat) (x a : Nat) (o : Nat → Nat → Int32), OV o N K C (nt + i) → nt + i + n < 2 ^ 18 → ∃ b, b ≤ a + 20 * n ∧ (iter (endsC N K C nt) n i (nI a, o)).1 = nI b
  | 0, i, x, a, o, h, _ => ⟨a, by omega, rfl⟩
  | n + 1, i, x, a, o, h, hb => by
    obtain ⟨b, h1, h2⟩ := night_nn h
    obtain ⟨c, -, -, -, h3⟩ := night_all h (by omega)
    obtain ⟨d, h4, h5⟩ := ends_n n (i + 1) x (a + b) (nightC N K C (nt + i) o).2 h3 (by omega)
    refine ⟨d, by omega, ?_⟩
    show (iter (endsC N K C nt) n (i + 1) (nI a + (nightC N K C (nt + i) o).1, (nightC N K C (nt + i) o).2)).1 = nI d
    rw [h2, nI_add]; exact h5
theorem ends_nn {N K C nt : Nat} {o : Nat → Nat → Int32} (h : OV o N K C nt) (n : Nat) (hb : nt + n < 2 ^ 18) (hn : n ≤ 60) : ∃ b, b ≤ 1200 ∧ (iter (endsC N K C nt) n 0 (0, o)).1 = nI b := by
  obtain ⟨b, h1, h2⟩ := ends_n (N := N) (K := K) (C := C) (nt := nt) n 0 0 0 o h hb
  exact ⟨b, by omega, h2⟩
theorem cnt_file {o oq : Nat → Nat → Int32} {N pn qn : Nat} {z : Int32} (hq : oq = pileAdd o N (nI pn) (nI qn) 5 z) : cntI (fun k => decide (oq 4 k = nI pn)) (N + 1) 0 0 = cntI (fun k => decide (o 4 k = nI pn)) N 0 0 + 1 := by
  have r4 : ∀ k, oq 4 k = if k = N then nI pn else o 4 k := fun k => by rw [hq]; rfl
  rw [cntI_0N, cntI_0N, nI_1]
  congr 1
  show cN _ N + (if decide (oq 4 N = nI pn) then 1 else 0) = _
  rw [r4, if_pos rfl, decide_eq_true rfl]
  congr 1
  exact cN_congr (fun k hk => by rw [r4, if_neg (by omega)])

set_option maxHeartbeats 8000000 in
set_option maxRecDepth 100000 in
theorem c_L_ahead (l : Launch) (hl9 : l.stackTraces = false) (D : va_G) (T : Nat → ClassId) (aK aV : Nat → Nat) (v : Nat → Nat) (B : Nat → Nat → Nat) (O : Nat → Nat → Nat → Int32) (g : CSt) (ln un nx pl : Nat) (f0 f1 f2 : Nat → Int32) (w : Nat)  (N K C nt : Nat) (hOI : OI (O 0) N K C nt) (hw : w < 2 ^ 31) (hOV : OV (O 0) N K C nt) (hG : GW O un nx f2) (hnt9 : nt ≤ 999) (sz : Nat) : Met l yL_ahead wsL_ahead ({ frames := 13, cells := 25500, slots := 153000, locals := 303 } : Room) (va_Pc [.ref (v 0), .int (nI w)] (LWP D T aK aV (WIN T v B O g ln un nx pl f0 f1 f2) sz)) (va_Qi (fun r9 (u : S3) => r9 = 1 ∧ u.1 0 = O 0 ∧ GW u.1 u.2.1 u.2.2 f2) (fun u t => QS D T (va_A (WIN T v B O g ln un nx pl f0 f1 f2) sz) (WIN T v B u.1 g ln u.2.1 u.2.2 pl f0 f1 f2) t) (va_A (WIN T v B O g ln un nx pl f0 f1 f2) sz)) 25500 153000 (va_A (WIN T v B O g ln un nx pl f0 f1 f2) sz) := by
  refine metUi (cc := cL_ahead) (maxL := 11) (ty := .boolean) (by decide) rfl (fun r u h => by rw [h.1]; rfl) (Nat.le_of_ble_eq_true rfl) ?_
  intro p e s m args below meth c Q ls A hx hb hml hown hts hNC hC hP hK hD hA hS hl hret
  have hown : s.vm.findClass RL = some m.cls := hown
  have hl : lv_has ls 11 [(0, .ref (v 0)), (1, .int (nI w))] := hl
  have hOI : OI (O 0) N K C nt := hOV.oi
  obtain ⟨hN, hN2, hKn, hK2, hCn, hC1, hC2, hn, hnt, hSK⟩ := id hOI
  have hOid : O 0 = O 0 := rfl
  have hgo : ∀ (H : Heap) (locs : List Loc), va_P D vwCl (WIN T v B O g ln un nx pl f0 f1 f2) H → va_S A s.heap H locs → W p l e ({ frames := 13, cells := 25500, slots := 153000, locals := 303 } : Room) s m args below meth c H locs (0) (0) Q (F0 m 0 ls []) := by
    intro H locs hP hS
    refine lv_aload_n hx hb dL_ahead_0 rfl (lv_at hl 0 rfl) ?_
    refine lqSl (As := [.ref (v 0)]) (rest := []) ⟨hx, hb, hml, hown, hts⟩ (c_L_state l hl9 D T aK aV v B O g ln un nx pl f0 f1 f2 N K C nt hOI _) (va_cwS 1 hts (gC gl_L_state) rfl rfl rfl (by decide +kernel) ⟨Nat.le_of_ble_eq_true rfl, Nat.le_of_ble_eq_true rfl⟩) (Foc.rfl _ _) hC hNC hK hP hD hS hA rfl hl.1 rfl (Nat.le_of_ble_eq_true rfl) ⟨by show _ ≤ 25500; omega, by show _ ≤ 153000; omega⟩ dL_ahead_1 (fun H locs hP hD hS => ?_)
    have hP : va_P D vwCl (WIN T v B O g ln un nx pl f0 f1 f2) H := hP
    have hD : va_D A (WIN T v B O g ln un nx pl f0 f1 f2) := hD
    refine lv_lstore_n (lv' := [(2, .long (stC (O 0) N K C)), (0, .ref (v 0)), (1, .int (nI w))]) hx hb dL_ahead_4 rfl hl (by decide) rfl (fun ls hl => ?_)
    refine lv_iconst (v := 1) hx hb dL_ahead_5 (by decide) ?_
    refine lv_istore (lv' := [(4, .int (1)), (2, .long (stC (O 0) N K C)), (0, .ref (v 0)), (1, .int (nI w))]) hx hb dL_ahead_6 hl (by decide) rfl (fun ls hl => ?_)
    refine lv_aload_n hx hb dL_ahead_8 rfl (lv_at hl 2 rfl) ?_
    refine rdV (As := []) (rest := []) ⟨hx, hb, hml, hown, hts⟩ (c_X9_complaintCount l D T v B O g ln un nx pl f0 f1 f2 ) (cwV 0 hts (gC gl_X9_complaintCount) rfl rfl rfl (by decide +kernel) ⟨Nat.le_of_ble_eq_true rfl, Nat.le_of_ble_eq_true rfl⟩) hK hP 0 rfl rfl rfl hl.1 rfl (Nat.le_of_ble_eq_true rfl) ⟨by show _ ≤ 25500; omega, by show _ ≤ 153000; omega⟩ dL_ahead_9 ?_
    refine endI (r := nI N) (hN) ?_
    refine lv_istore (lv' := [(5, .int (nI N)), (4, .int (1)), (2, .long (stC (O 0) N K C)), (0, .ref (v 0)), (1, .int (nI w))]) hx hb dL_ahead_12 hl (by decide) rfl (fun ls hl => ?_)
    refine lv_iload_n hx hb dL_ahead_14 rfl (lv_at hl 4 rfl) ?_
    refine lv_sipush (v := 255) hx hb dL_ahead_15 (by decide) ?_
    refine lv_iand hx hb dL_ahead_18 ?_
    refine endI (r := nI (w % 2 ^ 8)) (nI_and w 8 hw (by decide)) ?_
    refine lv_iconst (v := 3) hx hb dL_ahead_19 (by decide) ?_
    refine lv_irem hx hb dL_ahead_20 (by decide) ?_
    refine endI (r := nI ((w % 2 ^ 8) % 3)) (pk_rem (a := w % 2 ^ 8) (d := 3) (by omega) (by decide) (by decide)) ?_
    refine lv_istore (lv' := [(6, .int (nI ((w % 2 ^ 8) % 3))), (5, .int (nI N)), (4, .int (1)), (2, .long (stC (O 0) N K C)), (0, .ref (v 0)), (1, .int (nI w))]) hx hb dL_ahead_21 hl (by decide) rfl (fun ls hl => ?_)
    have L23 : ∀ (n9 : Nat) (k : Nat) (Oa : Nat → Nat → Nat → Int32) (una : Nat) (nxa : Nat) (cb1 sb1 : Nat), (N + 3 - k) < n9 → (k ≤ N + 2) → (Oa 0 = O 0) → (GW Oa una nxa f2) → cb1 ≤ 0 + 1400 + 2400 * ((k / 3)) → sb1 ≤ 0 + 8400 + 14400 * ((k / 3)) → ∀ (H : Heap) (locs : List Loc) (ls : Array Slot), va_P D vwCl (WIN T v B Oa g ln una nxa pl f0 f1 f2) H → va_D A (WIN T v B Oa g ln una nxa pl f0 f1 f2) → va_S A s.heap H locs → lv_has ls 11 [(6, .int (nI k)), (5, .int (nI N)), (4, .int (1)), (2, .long (stC (O 0) N K C)), (0, .ref (v 0)), (1, .int (nI w))] → W p l e ({ frames := 13, cells := 25500, slots := 153000, locals := 303 } : Room) s m args below meth c H locs cb1 sb1 Q (F0 m 23 ls []) := by
      intro n9
      induction n9 with
      | zero => intro k Oa una nxa cb1 sb1 hm9; exact absurd hm9 (Nat.not_lt_zero _)
      | succ n9 ih23 =>
        intro k Oa una nxa cb1 sb1 hm9 hk hOa hGa hcb1 hsb1 H locs ls hP hD hS hl
        have hOVa : OV (Oa 0) N K C nt := by rw [hOa]; exact hOV
        have hOIa := hOVa.oi
        have huna := hGa.un8
        refine lv_iload hx hb dL_ahead_23 (lv_at hl 0 rfl) ?_
        refine lv_iload hx hb dL_ahead_25 (lv_at hl 1 rfl) ?_
        refine lv_icmp_ge (tgt := 360) hx hb dL_ahead_27 (by decide) (fun c27 => ?_) (fun c27 => ?_)
        ·
          have c27 : N ≤ k := (nI_leI (a := N) (b := k) (by omega) (by omega)).mp c27
          refine lv_iload_n hx hb dL_ahead_360 rfl (lv_at hl 5 rfl) ?_
          refine lv_iconst (v := 5) hx hb dL_ahead_361 (by decide) ?_
          refine lv_ishr hx hb dL_ahead_362 ?_
          refine endI (r := nI (w / 2 ^ 5)) (nI_shr (k := 5) hw (by decide)) ?_
          refine lv_sipush (v := 255) hx hb dL_ahead_363 (by decide) ?_
          refine lv_iand hx hb dL_ahead_366 ?_
          refine endI (r := nI (w / 2 ^ 5 % 2 ^ 8)) (nI_and _ 8 (Nat.lt_of_le_of_lt (Nat.div_le_self _ _) hw) (by decide)) ?_
          refine lv_bipush (v := 100) hx hb dL_ahead_367 (by decide) ?_
          refine lv_irem hx hb dL_ahead_369 (by decide) ?_
          obtain ⟨pn, hpn⟩ : ∃ pn, pn = w / 2 ^ 5 % 2 ^ 8 % 100 := ⟨_, rfl⟩
          have hpn9 : pn < 100 := by rw [hpn]; exact Nat.mod_lt _ (by decide)
          refine endI (r := nI pn) (by rw [hpn]; exact pk_rem (d := 100) (by have := Nat.mod_lt (w / 2 ^ 5) (show 0 < 2 ^ 8 by decide); omega) (by decide) (by decide)) ?_
          refine lv_istore (lv' := [(6, .int (nI pn)), (5, .int (nI N)), (4, .int (1)), (2, .long (stC (O 0) N K C)), (0, .ref (v 0)), (1, .int (nI w))]) hx hb dL_ahead_370 hl (by decide) rfl (fun ls hl => ?_)
          refine lv_iload_n hx hb dL_ahead_372 rfl (lv_at hl 5 rfl) ?_
          refine lv_iconst (v := 3) hx hb dL_ahead_373 (by decide) ?_
          refine lv_ishr hx hb dL_ahead_374 ?_
          refine endI (r := nI (w / 2 ^ 3)) (nI_shr (k := 3) hw (by decide)) ?_
          refine lv_iconst (v := 3) hx hb dL_ahead_375 (by decide) ?_
          refine lv_iand hx hb dL_ahead_376 ?_
          obtain ⟨qn, hqn⟩ : ∃ qn, qn = w / 2 ^ 3 % 2 ^ 2 := ⟨_, rfl⟩
          have hqn4 : qn < 4 := by rw [hqn]; exact Nat.mod_lt _ (by decide)
          refine endI (r := nI qn) (by rw [hqn]; exact nI_and _ 2 (Nat.lt_of_le_of_lt (Nat.div_le_self _ _) hw) (by decide)) ?_
          refine lv_istore (lv' := [(7, .int (nI qn)), (6, .int (nI pn)), (5, .int (nI N)), (4, .int (1)), (2, .long (stC (O 0) N K C)), (0, .ref (v 0)), (1, .int (nI w))]) hx hb dL_ahead_377 hl (by decide) rfl (fun ls hl => ?_)
          refine lv_aload_n hx hb dL_ahead_379 rfl (lv_at hl 5 rfl) ?_
          refine lv_bipush (v := 36) hx hb dL_ahead_380 (by decide) ?_
          refine lv_iload hx hb dL_ahead_382 (lv_at hl 1 rfl) ?_
          refine lqSi (As := [.ref (v 0), .int (36), .int (nI pn)]) (rest := []) ⟨hx, hb, hml, hown, hts⟩ (c_ask_complaintsOf l hl9 D T aK aV v B Oa g ln una nxa pl f0 f1 f2 (nI pn) N K C nt hOIa (rg_99 (by omega)) _) (va_cwS 3 hts (gC gl_L_call__) rfl rfl rfl (by decide +kernel) ⟨Nat.le_of_ble_eq_true rfl, Nat.le_of_ble_eq_true rfl⟩) (Foc.rfl _ _) hC hNC hK hP hD hS hA rfl hl.1 rfl (Nat.le_of_ble_eq_true rfl) ⟨by show _ ≤ 25500; omega, by show _ ≤ 153000; omega⟩ dL_ahead_384 (fun H locs hP hD hS => ?_)
          have hP : va_P D vwCl (WIN T v B Oa g ln una nxa pl f0 f1 f2) H := hP
          have hD : va_D A (WIN T v B Oa g ln una nxa pl f0 f1 f2) := hD
          refine endI (r := cntI (fun k => decide ((O 0) 4 k = (nI pn))) N 0 0) (by rw [hOa]) ?_
          refine lv_istore (lv' := [(8, .int (cntI (fun k => decide ((O 0) 4 k = (nI pn))) N 0 0)), (7, .int (nI qn)), (6, .int (nI pn)), (5, .int (nI N)), (4, .int (1)), (2, .long (stC (O 0) N K C)), (0, .ref (v 0)), (1, .int (nI w))]) hx hb dL_ahead_387 hl (by decide) rfl (fun ls hl => ?_)
          rcases hf : findC (O 0) (nI pn) (nI qn) N with _ | jf
          ·
            rcases Nat.lt_or_ge N 24 with h24 | h24
            ·
              refine lv_aload_n hx hb dL_ahead_389 rfl (lv_at hl 6 rfl) ?_
              refine lv_bipush (v := 33) hx hb dL_ahead_390 (by decide) ?_
              refine lv_iload hx hb dL_ahead_392 (lv_at hl 2 rfl) ?_
              refine lv_iload hx hb dL_ahead_394 (lv_at hl 1 rfl) ?_
              refine lqSi (As := [.ref (v 0), .int (33), .int (nI pn), .int (nI qn)]) (rest := []) ⟨hx, hb, hml, hown, hts⟩ (c_ask_waitingOf l hl9 D T aK aV v B Oa g ln una nxa pl f0 f1 f2 (nI pn) (nI qn) N K C nt hOIa (rg_99 (by omega)) (rg_3 (by omega)) _) (va_cwS 4 hts (gC gl_L_call_) rfl rfl rfl (by decide +kernel) ⟨Nat.le_of_ble_eq_true rfl, Nat.le_of_ble_eq_true rfl⟩) (Foc.rfl _ _) hC hNC hK hP hD hS hA rfl hl.1 rfl (Nat.le_of_ble_eq_true rfl) ⟨by show _ ≤ 25500; omega, by show _ ≤ 153000; omega⟩ dL_ahead_396 (fun H locs hP hD hS => ?_)
              have hP : va_P D vwCl (WIN T v B Oa g ln una nxa pl f0 f1 f2) H := hP
              have hD : va_D A (WIN T v B Oa g ln una nxa pl f0 f1 f2) := hD
              refine endI (r := (findC (O 0) (nI pn) (nI qn) N).elim (-101) nI) (by rw [hOa]) ?_
              refine endI (r := -101) (by rw [hf]; rfl) ?_
              refine lv_istore (lv' := [(9, .int (-101)), (8, .int (cntI (fun k => decide ((O 0) 4 k = (nI pn))) N 0 0)), (7, .int (nI qn)), (6, .int (nI pn)), (5, .int (nI N)), (4, .int (1)), (2, .long (stC (O 0) N K C)), (0, .ref (v 0)), (1, .int (nI w))]) hx hb dL_ahead_399 hl (by decide) rfl (fun ls hl => ?_)
              refine lv_aload_n hx hb dL_ahead_401 rfl (lv_at hl 7 rfl) ?_
              refine lv_iconst (v := 0) hx hb dL_ahead_402 (by decide) ?_
              refine lv_iload hx hb dL_ahead_403 (lv_at hl 3 rfl) ?_
              refine lv_iload hx hb dL_ahead_405 (lv_at hl 2 rfl) ?_
              refine lv_iconst (v := 5) hx hb dL_ahead_407 (by decide) ?_
              refine lv_iconst (v := 0) hx hb dL_ahead_408 (by decide) ?_
              refine lv_iconst (v := 0) hx hb dL_ahead_409 (by decide) ?_
              refine lcXi (S := S3) (ws1 := fun u => (WIN T v B u.1 g ln u.2.1 u.2.2 pl f0 f1 f2 : va_W)) (wc1 := fun u => WIN T v B u.1 g ln u.2.1 u.2.2 pl f0 f1 f2) (As := [.ref (v 0), .int (0), .int (nI pn), .int (nI qn), .int (5), .int (0), .int (0)]) (rest := []) ⟨hx, hb, hml, hown, hts⟩ (c_ex_file l hl9 D T aK aV v B Oa g ln una nxa pl f0 f1 f2 pn qn N K C nt hOVa hGa (by omega) (by omega) (by omega) (by rw [hOa]; exact hf) (by omega) _) (vx_cwSW 7 hts (gC gl_L_call) rfl rfl rfl (by decide +kernel) ⟨Nat.le_of_ble_eq_true rfl, Nat.le_of_ble_eq_true rfl⟩) (fun u => Foc.rfl _ _) (Foc.rfl _ _) hC hNC hK hP hD hS hA rfl hl.1 rfl (Nat.le_of_ble_eq_true rfl) ⟨by show _ ≤ 25500; omega, by show _ ≤ 153000; omega⟩ dL_ahead_410 (fun r9 u H locs hr hP hD hS => ?_)
              obtain ⟨Op410, unp410, nxp410⟩ := u
              obtain ⟨oq, hoq⟩ : ∃ o9, o9 = pileAdd (O 0) N (nI pn) (nI qn) 5 ((O 0) 0 0) := ⟨_, rfl⟩
              have hOVq : OV oq (N + 1) K C nt := by rw [hoq]; exact hOV.file (by omega) (a := 5) (by omega) (by omega) (by decide) (by decide) hf
              have q4 : oq 4 N = nI pn := by rw [hoq]; exact if_pos rfl
              have q5 : oq 5 N = nI qn := by rw [hoq]; exact if_pos rfl
              have q8 : oq 8 N = 0 := by rw [hoq]; exact if_pos rfl
              have qf : findC oq (nI pn) (nI qn) (N + 1) = some N := by rw [← q4, ← q5]; exact find_wait hOVq (by omega) q8
              have q07 : oq 0 7 = nI (N + 1) := hOVq.oi.1
              obtain ⟨hr, hOp410, hGp410, hup410, htopp410⟩ := hr
              replace hOp410 : Op410 0 = oq := by rw [hoq, ← hOa]; exact hOp410
              replace hGp410 : GW Op410 unp410 nxp410 f2 := hGp410
              replace hup410 : 0 < unp410 := hup410
              replace htopp410 : Op410 (3 + (nxp410 + 7) % 8) = O 0 := by rw [← hOa]; exact htopp410
              have hOVp410 : OV (Op410 0) (N + 1) K C (nt) := by rw [hOp410]; exact hOVq
              have hOIp410 := hOVp410.oi
              have hunp410 := hGp410.un8
              replace hr : r9 = nI N := hr
              subst hr
              have hP : va_P D vwCl (WIN T v B Op410 g ln unp410 nxp410 pl f0 f1 f2) H := hP
              have hD : va_D A (WIN T v B Op410 g ln unp410 nxp410 pl f0 f1 f2) := hD
              refine lv_istore (lv' := [(10, .int (nI N)), (9, .int (-101)), (8, .int (cntI (fun k => decide ((O 0) 4 k = (nI pn))) N 0 0)), (7, .int (nI qn)), (6, .int (nI pn)), (5, .int (nI N)), (4, .int (1)), (2, .long (stC (O 0) N K C)), (0, .ref (v 0)), (1, .int (nI w))]) hx hb dL_ahead_413 hl (by decide) rfl (fun ls hl => ?_)
              refine lv_iload hx hb dL_ahead_415 (lv_at hl 1 rfl) ?_
              refine lv_if_ge (tgt := 427) hx hb dL_ahead_417 (by decide) (fun c417 => ?_) (fun c417 => ?_)
              ·
                exact absurd c417 (by decide)
              ·
                refine lv_iload hx hb dL_ahead_420 (lv_at hl 5 rfl) ?_
                refine lv_bipush (v := 24) hx hb dL_ahead_422 (by decide) ?_
                refine lv_icmp_ne (tgt := 449) hx hb dL_ahead_424 (by decide) (fun c424 => ?_) (fun c424 => ?_)
                ·
                  have c424 : ¬ N = 24 := fun h9 => c424 ((nI_eq (a := N) (b := 24) (by omega) (by omega)).mpr h9)
                  refine lv_iload hx hb dL_ahead_449 (lv_at hl 6 rfl) ?_
                  refine lv_if_eq (tgt := 536) hx hb dL_ahead_451 (by decide) (fun c451 => ?_) (fun c451 => ?_)
                  ·
                    exact absurd c451 (by decide)
                  ·
                    refine lv_iload hx hb dL_ahead_454 (lv_at hl 1 rfl) ?_
                    refine lv_bipush (v := -101) hx hb dL_ahead_456 (by decide) ?_
                    refine lv_icmp_ne (tgt := 536) hx hb dL_ahead_458 (by decide) (fun c458 => ?_) (fun c458 => ?_)
                    ·
                      exact absurd c458 (by decide)
                    ·
                      refine lv_iload hx hb dL_ahead_461 (lv_at hl 0 rfl) ?_
                      refine lv_iload hx hb dL_ahead_463 (lv_at hl 5 rfl) ?_
                      refine lv_icmp_ne (tgt := 536) hx hb dL_ahead_465 (by decide) (fun c465 => ?_) (fun c465 => ?_)
                      ·
                        exact absurd rfl c465
                      ·
                        refine lv_aload_n hx hb dL_ahead_468 rfl (lv_at hl 8 rfl) ?_
                        refine lv_bipush (v := 36) hx hb dL_ahead_469 (by decide) ?_
                        refine lv_iload hx hb dL_ahead_471 (lv_at hl 4 rfl) ?_
                        refine lqSi (As := [.ref (v 0), .int (36), .int (nI pn)]) (rest := []) ⟨hx, hb, hml, hown, hts⟩ (c_ask_complaintsOf l hl9 D T aK aV v B Op410 g ln unp410 nxp410 pl f0 f1 f2 (nI pn) (N + 1) K C nt hOIp410 (rg_99 (by omega)) _) (va_cwS 3 hts (gC gl_L_call__) rfl rfl rfl (by decide +kernel) ⟨Nat.le_of_ble_eq_true rfl, Nat.le_of_ble_eq_true rfl⟩) (Foc.rfl _ _) hC hNC hK hP hD hS hA rfl hl.1 rfl (Nat.le_of_ble_eq_true rfl) ⟨by show _ ≤ 25500; omega, by show _ ≤ 153000; omega⟩ dL_ahead_473 (fun H locs hP hD hS => ?_)
                        have hP : va_P D vwCl (WIN T v B Op410 g ln unp410 nxp410 pl f0 f1 f2) H := hP
                        have hD : va_D A (WIN T v B Op410 g ln unp410 nxp410 pl f0 f1 f2) := hD
                        refine endI (r := cntI (fun k => decide (oq 4 k = (nI pn))) (N + 1) 0 0) (by rw [hOp410]) ?_
                        refine endI (r := (cntI (fun k => decide ((O 0) 4 k = (nI pn))) N 0 0) + 1) (cnt_file hoq) ?_
                        refine lv_iload hx hb dL_ahead_476 (lv_at hl 2 rfl) ?_
                        refine lv_iconst (v := 1) hx hb dL_ahead_478 (by decide) ?_
                        refine lv_iadd hx hb dL_ahead_479 ?_
                        refine lv_icmp_ne (tgt := 536) hx hb dL_ahead_480 (by decide) (fun c480 => ?_) (fun c480 => ?_)
                        ·
                          exact absurd rfl c480
                        ·
                          refine lv_aload_n hx hb dL_ahead_483 rfl (lv_at hl 8 rfl) ?_
                          refine lv_bipush (v := 33) hx hb dL_ahead_484 (by decide) ?_
                          refine lv_iload hx hb dL_ahead_486 (lv_at hl 4 rfl) ?_
                          refine lv_iload hx hb dL_ahead_488 (lv_at hl 3 rfl) ?_
                          refine lqSi (As := [.ref (v 0), .int (33), .int (nI pn), .int (nI qn)]) (rest := []) ⟨hx, hb, hml, hown, hts⟩ (c_ask_waitingOf l hl9 D T aK aV v B Op410 g ln unp410 nxp410 pl f0 f1 f2 (nI pn) (nI qn) (N + 1) K C nt hOIp410 (rg_99 (by omega)) (rg_3 (by omega)) _) (va_cwS 4 hts (gC gl_L_call_) rfl rfl rfl (by decide +kernel) ⟨Nat.le_of_ble_eq_true rfl, Nat.le_of_ble_eq_true rfl⟩) (Foc.rfl _ _) hC hNC hK hP hD hS hA rfl hl.1 rfl (Nat.le_of_ble_eq_true rfl) ⟨by show _ ≤ 25500; omega, by show _ ≤ 153000; omega⟩ dL_ahead_490 (fun H locs hP hD hS => ?_)
                          have hP : va_P D vwCl (WIN T v B Op410 g ln unp410 nxp410 pl f0 f1 f2) H := hP
                          have hD : va_D A (WIN T v B Op410 g ln unp410 nxp410 pl f0 f1 f2) := hD
                          refine endI (r := (findC oq (nI pn) (nI qn) (N + 1)).elim (-101) nI) (by rw [hOp410]) ?_
                          refine endI (r := nI N) (by rw [qf]; rfl) ?_
                          refine lv_iload hx hb dL_ahead_493 (lv_at hl 5 rfl) ?_
                          refine lv_icmp_ne (tgt := 536) hx hb dL_ahead_495 (by decide) (fun c495 => ?_) (fun c495 => ?_)
                          ·
                            exact absurd rfl c495
                          ·
                            refine lv_aload_n hx hb dL_ahead_498 rfl (lv_at hl 8 rfl) ?_
                            refine lv_iconst (v := 0) hx hb dL_ahead_499 (by decide) ?_
                            refine lv_iload hx hb dL_ahead_500 (lv_at hl 4 rfl) ?_
                            refine lv_iload hx hb dL_ahead_502 (lv_at hl 3 rfl) ?_
                            refine lv_iconst (v := 5) hx hb dL_ahead_504 (by decide) ?_
                            refine lv_iconst (v := 0) hx hb dL_ahead_505 (by decide) ?_
                            refine lv_iconst (v := 0) hx hb dL_ahead_506 (by decide) ?_
                            refine lqXi (As := [.ref (v 0), .int (0), .int (nI pn), .int (nI qn), .int (5), .int (0), .int (0)]) (rest := []) ⟨hx, hb, hml, hown, hts⟩ (c_ask_bad0w l hl9 D T aK aV v B Op410 g ln unp410 nxp410 pl f0 f1 f2 pn qn (N + 1) K C nt hOIp410 (by omega) (by omega) (fun _ => by rw [hOp410, qf]; exact fun e => by cases e) hGp410.un8 hGp410.nx8 _) (vx_cwSW 7 hts (gC gl_L_call) rfl rfl rfl (by decide +kernel) ⟨Nat.le_of_ble_eq_true rfl, Nat.le_of_ble_eq_true rfl⟩) (Foc.rfl _ _) hC hNC hK hP hD hS hA rfl hl.1 rfl (Nat.le_of_ble_eq_true rfl) ⟨by show _ ≤ 25500; omega, by show _ ≤ 153000; omega⟩ dL_ahead_507 (fun H locs hP hD hS => ?_)
                            have hP : va_P D vwCl (WIN T v B Op410 g ln unp410 nxp410 pl f0 f1 f2) H := hP
                            have hD : va_D A (WIN T v B Op410 g ln unp410 nxp410 pl f0 f1 f2) := hD
                            refine lv_bipush (v := -102) hx hb dL_ahead_510 (by decide) ?_
                            refine lv_icmp_ne (tgt := 536) hx hb dL_ahead_512 (by decide) (fun c512 => ?_) (fun c512 => ?_)
                            ·
                              exact absurd c512 (by decide)
                            ·
                              refine lv_aload_n hx hb dL_ahead_515 rfl (lv_at hl 8 rfl) ?_
                              refine lqSi (As := [.ref (v 0)]) (rest := []) ⟨hx, hb, hml, hown, hts⟩ (c_L_books l hl9 D T aK aV v B Op410 g ln unp410 nxp410 pl f0 f1 f2 (N + 1) K C nt hOIp410 hOVp410 (by omega) _) (va_cwS 1 hts (gC gl_L_books) rfl rfl rfl (by decide +kernel) ⟨Nat.le_of_ble_eq_true rfl, Nat.le_of_ble_eq_true rfl⟩) (Foc.rfl _ _) hC hNC hK hP hD hS hA rfl hl.1 rfl (Nat.le_of_ble_eq_true rfl) ⟨by show _ ≤ 25500; omega, by show _ ≤ 153000; omega⟩ dL_ahead_516 (fun H locs hP hD hS => ?_)
                              have hP : va_P D vwCl (WIN T v B Op410 g ln unp410 nxp410 pl f0 f1 f2) H := hP
                              have hD : va_D A (WIN T v B Op410 g ln unp410 nxp410 pl f0 f1 f2) := hD
                              refine lv_if_eq (tgt := 536) hx hb dL_ahead_519 (by decide) (fun c519 => ?_) (fun c519 => ?_)
                              ·
                                exact absurd c519 (by decide)
                              ·
                                refine lv_aload_n hx hb dL_ahead_522 rfl (lv_at hl 8 rfl) ?_
                                refine lv_bipush (v := 9) hx hb dL_ahead_523 (by decide) ?_
                                refine lv_iconst (v := 0) hx hb dL_ahead_525 (by decide) ?_
                                refine lcSi (S := S3) (ws1 := fun u => (WIN T v B u.1 g ln u.2.1 u.2.2 pl f0 f1 f2 : va_W)) (wc1 := fun u => WIN T v B u.1 g ln u.2.1 u.2.2 pl f0 f1 f2) (As := [.ref (v 0), .int (9), .int (0)]) (rest := []) ⟨hx, hb, hml, hown, hts⟩ (c_ex_undo l hl9 D T aK aV v B Op410 g ln unp410 nxp410 pl f0 f1 f2 (N + 1) K C nt hGp410 hup410 _) (va_cwS 3 hts (gC gl_L_call__) rfl rfl rfl (by decide +kernel) ⟨Nat.le_of_ble_eq_true rfl, Nat.le_of_ble_eq_true rfl⟩) (fun u => Foc.rfl _ _) (Foc.rfl _ _) hC hNC hK hP hD hS hA rfl hl.1 rfl (Nat.le_of_ble_eq_true rfl) ⟨by show _ ≤ 25500; omega, by show _ ≤ 153000; omega⟩ dL_ahead_526 (fun r9 u H locs hr hP hD hS => ?_)
                                obtain ⟨Op526, unp526, nxp526⟩ := u
                                obtain ⟨hr, hOp526, hGp526⟩ := hr
                                replace hOp526 : Op526 0 = O 0 := hOp526.trans htopp410
                                replace hGp526 : GW Op526 unp526 nxp526 f2 := hGp526
                                have hOVp526 : OV (Op526 0) N K C nt := by rw [hOp526]; exact hOV
                                have hOIp526 := hOVp526.oi
                                replace hr : r9 = nI (unp410 - 1) := hr
                                subst hr
                                have hP : va_P D vwCl (WIN T v B Op526 g ln unp526 nxp526 pl f0 f1 f2) H := hP
                                have hD : va_D A (WIN T v B Op526 g ln unp526 nxp526 pl f0 f1 f2) := hD
                                refine lv_if_lt (tgt := 536) hx hb dL_ahead_529 (by decide) (fun c529 => ?_) (fun c529 => ?_)
                                ·
                                  have c529 : (unp410 - 1) < 0 := (nI_ltI (a := (unp410 - 1)) (b := 0) (by omega) (by omega)).mp c529
                                  exfalso; omega
                                ·
                                  have c529 : ¬ (unp410 - 1) < 0 := fun h9 => c529 ((nI_ltI (a := (unp410 - 1)) (b := 0) (by omega) (by omega)).mpr h9)
                                  refine lv_iconst (v := 1) hx hb dL_ahead_532 (by decide) ?_
                                  refine lv_goto (tgt := 537) hx hb dL_ahead_533 (by decide) ?_
                                  refine lv_istore (lv' := [(4, .int (1)), (10, .int (nI N)), (9, .int (-101)), (8, .int (cntI (fun k => decide ((O 0) 4 k = (nI pn))) N 0 0)), (7, .int (nI qn)), (6, .int (nI pn)), (5, .int (nI N)), (2, .long (stC (O 0) N K C)), (0, .ref (v 0)), (1, .int (nI w))]) hx hb dL_ahead_537 hl (by decide) rfl (fun ls hl => ?_)
                                  refine lv_iload hx hb dL_ahead_539 (lv_at hl 0 rfl) ?_
                                  refine lv_if_eq (tgt := 604) hx hb dL_ahead_541 (by decide) (fun c541 => ?_) (fun c541 => ?_)
                                  ·
                                    exact absurd c541 (by decide)
                                  ·
                                    refine lv_aload_n hx hb dL_ahead_544 rfl (lv_at hl 8 rfl) ?_
                                    refine lv_iconst (v := 0) hx hb dL_ahead_545 (by decide) ?_
                                    refine lv_bipush (v := 100) hx hb dL_ahead_546 (by decide) ?_
                                    refine lv_iconst (v := 0) hx hb dL_ahead_548 (by decide) ?_
                                    refine lv_iconst (v := 5) hx hb dL_ahead_549 (by decide) ?_
                                    refine lv_iconst (v := 0) hx hb dL_ahead_550 (by decide) ?_
                                    refine lv_iconst (v := 0) hx hb dL_ahead_551 (by decide) ?_
                                    refine lqXi (As := [.ref (v 0), .int (0), .int (100), .int (0), .int (5), .int (0), .int (0)]) (rest := []) ⟨hx, hb, hml, hown, hts⟩ (c_ask_bad0p l hl9 D T aK aV v B Op526 g ln unp526 nxp526 pl f0 f1 f2 N K C nt hOIp526 hGp526.un8 hGp526.nx8 _) (vx_cwSW 7 hts (gC gl_L_call) rfl rfl rfl (by decide +kernel) ⟨Nat.le_of_ble_eq_true rfl, Nat.le_of_ble_eq_true rfl⟩) (Foc.rfl _ _) hC hNC hK hP hD hS hA rfl hl.1 rfl (Nat.le_of_ble_eq_true rfl) ⟨by show _ ≤ 25500; omega, by show _ ≤ 153000; omega⟩ dL_ahead_552 (fun H locs hP hD hS => ?_)
                                    have hP : va_P D vwCl (WIN T v B Op526 g ln unp526 nxp526 pl f0 f1 f2) H := hP
                                    have hD : va_D A (WIN T v B Op526 g ln unp526 nxp526 pl f0 f1 f2) := hD
                                    refine lv_bipush (v := -103) hx hb dL_ahead_555 (by decide) ?_
                                    refine lv_icmp_ne (tgt := 604) hx hb dL_ahead_557 (by decide) (fun c557 => ?_) (fun c557 => ?_)
                                    ·
                                      exact absurd c557 (by decide)
                                    ·
                                      refine lv_aload_n hx hb dL_ahead_560 rfl (lv_at hl 8 rfl) ?_
                                      refine lv_iconst (v := 0) hx hb dL_ahead_561 (by decide) ?_
                                      refine lv_iconst (v := 0) hx hb dL_ahead_562 (by decide) ?_
                                      refine lv_iconst (v := 4) hx hb dL_ahead_563 (by decide) ?_
                                      refine lv_iconst (v := 5) hx hb dL_ahead_564 (by decide) ?_
                                      refine lv_iconst (v := 0) hx hb dL_ahead_565 (by decide) ?_
                                      refine lv_iconst (v := 0) hx hb dL_ahead_566 (by decide) ?_
                                      refine lqXi (As := [.ref (v 0), .int (0), .int (0), .int (4), .int (5), .int (0), .int (0)]) (rest := []) ⟨hx, hb, hml, hown, hts⟩ (c_ask_bad0s l hl9 D T aK aV v B Op526 g ln unp526 nxp526 pl f0 f1 f2 N K C nt hOIp526 hGp526.un8 hGp526.nx8 _) (vx_cwSW 7 hts (gC gl_L_call) rfl rfl rfl (by decide +kernel) ⟨Nat.le_of_ble_eq_true rfl, Nat.le_of_ble_eq_true rfl⟩) (Foc.rfl _ _) hC hNC hK hP hD hS hA rfl hl.1 rfl (Nat.le_of_ble_eq_true rfl) ⟨by show _ ≤ 25500; omega, by show _ ≤ 153000; omega⟩ dL_ahead_567 (fun H locs hP hD hS => ?_)
                                      have hP : va_P D vwCl (WIN T v B Op526 g ln unp526 nxp526 pl f0 f1 f2) H := hP
                                      have hD : va_D A (WIN T v B Op526 g ln unp526 nxp526 pl f0 f1 f2) := hD
                                      refine lv_bipush (v := -103) hx hb dL_ahead_570 (by decide) ?_
                                      refine lv_icmp_ne (tgt := 604) hx hb dL_ahead_572 (by decide) (fun c572 => ?_) (fun c572 => ?_)
                                      ·
                                        exact absurd c572 (by decide)
                                      ·
                                        refine lv_aload_n hx hb dL_ahead_575 rfl (lv_at hl 8 rfl) ?_
                                        refine lv_iconst (v := 0) hx hb dL_ahead_576 (by decide) ?_
                                        refine lv_iconst (v := 0) hx hb dL_ahead_577 (by decide) ?_
                                        refine lv_iconst (v := 0) hx hb dL_ahead_578 (by decide) ?_
                                        refine lv_bipush (v := 10) hx hb dL_ahead_579 (by decide) ?_
                                        refine lv_iconst (v := 0) hx hb dL_ahead_581 (by decide) ?_
                                        refine lv_iconst (v := 0) hx hb dL_ahead_582 (by decide) ?_
                                        refine lqXi (As := [.ref (v 0), .int (0), .int (0), .int (0), .int (10), .int (0), .int (0)]) (rest := []) ⟨hx, hb, hml, hown, hts⟩ (c_ask_bad0a l hl9 D T aK aV v B Op526 g ln unp526 nxp526 pl f0 f1 f2 N K C nt hOIp526 hGp526.un8 hGp526.nx8 _) (vx_cwSW 7 hts (gC gl_L_call) rfl rfl rfl (by decide +kernel) ⟨Nat.le_of_ble_eq_true rfl, Nat.le_of_ble_eq_true rfl⟩) (Foc.rfl _ _) hC hNC hK hP hD hS hA rfl hl.1 rfl (Nat.le_of_ble_eq_true rfl) ⟨by show _ ≤ 25500; omega, by show _ ≤ 153000; omega⟩ dL_ahead_583 (fun H locs hP hD hS => ?_)
                                        have hP : va_P D vwCl (WIN T v B Op526 g ln unp526 nxp526 pl f0 f1 f2) H := hP
                                        have hD : va_D A (WIN T v B Op526 g ln unp526 nxp526 pl f0 f1 f2) := hD
                                        refine lv_bipush (v := -103) hx hb dL_ahead_586 (by decide) ?_
                                        refine lv_icmp_ne (tgt := 604) hx hb dL_ahead_588 (by decide) (fun c588 => ?_) (fun c588 => ?_)
                                        ·
                                          exact absurd c588 (by decide)
                                        ·
                                          refine lv_aload_n hx hb dL_ahead_591 rfl (lv_at hl 8 rfl) ?_
                                          refine lqSl (As := [.ref (v 0)]) (rest := []) ⟨hx, hb, hml, hown, hts⟩ (c_L_state l hl9 D T aK aV v B Op526 g ln unp526 nxp526 pl f0 f1 f2 N K C nt hOIp526 _) (va_cwS 1 hts (gC gl_L_state) rfl rfl rfl (by decide +kernel) ⟨Nat.le_of_ble_eq_true rfl, Nat.le_of_ble_eq_true rfl⟩) (Foc.rfl _ _) hC hNC hK hP hD hS hA rfl hl.1 rfl (Nat.le_of_ble_eq_true rfl) ⟨by show _ ≤ 25500; omega, by show _ ≤ 153000; omega⟩ dL_ahead_592 (fun H locs hP hD hS => ?_)
                                          have hP : va_P D vwCl (WIN T v B Op526 g ln unp526 nxp526 pl f0 f1 f2) H := hP
                                          have hD : va_D A (WIN T v B Op526 g ln unp526 nxp526 pl f0 f1 f2) := hD
                                          refine endL (r := stC (O 0) N K C) (by rw [hOp526]) ?_
                                          refine lv_lload_n hx hb dL_ahead_595 rfl (lv_at hl 7 rfl) ?_
                                          refine W.lcmp hx hb dL_ahead_596 ?_
                                          refine endI (r := 0) ((lg_cmp_eq _ _).mpr rfl) ?_
                                          refine lv_if_ne (tgt := 604) hx hb dL_ahead_597 (by decide) (fun c597 => ?_) (fun c597 => ?_)
                                          ·
                                            exact absurd c597 (by decide)
                                          ·
                                            refine lv_iconst (v := 1) hx hb dL_ahead_600 (by decide) ?_
                                            refine lv_goto (tgt := 605) hx hb dL_ahead_601 (by decide) ?_
                                            exact hret _ _ _ _ _ _ 1 (Op526, unp526, nxp526) dL_ahead_605 ⟨rfl, hOp526, hGp526⟩ hP hD hS (by omega) (by omega)
                ·
                  have c424 : N = 24 := (nI_eq (a := N) (b := 24) (by omega) (by omega)).mp c424
                  exfalso; omega
            ·
              refine lv_aload_n hx hb dL_ahead_389 rfl (lv_at hl 6 rfl) ?_
              refine lv_bipush (v := 33) hx hb dL_ahead_390 (by decide) ?_
              refine lv_iload hx hb dL_ahead_392 (lv_at hl 2 rfl) ?_
              refine lv_iload hx hb dL_ahead_394 (lv_at hl 1 rfl) ?_
              refine lqSi (As := [.ref (v 0), .int (33), .int (nI pn), .int (nI qn)]) (rest := []) ⟨hx, hb, hml, hown, hts⟩ (c_ask_waitingOf l hl9 D T aK aV v B Oa g ln una nxa pl f0 f1 f2 (nI pn) (nI qn) N K C nt hOIa (rg_99 (by omega)) (rg_3 (by omega)) _) (va_cwS 4 hts (gC gl_L_call_) rfl rfl rfl (by decide +kernel) ⟨Nat.le_of_ble_eq_true rfl, Nat.le_of_ble_eq_true rfl⟩) (Foc.rfl _ _) hC hNC hK hP hD hS hA rfl hl.1 rfl (Nat.le_of_ble_eq_true rfl) ⟨by show _ ≤ 25500; omega, by show _ ≤ 153000; omega⟩ dL_ahead_396 (fun H locs hP hD hS => ?_)
              have hP : va_P D vwCl (WIN T v B Oa g ln una nxa pl f0 f1 f2) H := hP
              have hD : va_D A (WIN T v B Oa g ln una nxa pl f0 f1 f2) := hD
              refine endI (r := (findC (O 0) (nI pn) (nI qn) N).elim (-101) nI) (by rw [hOa]) ?_
              refine endI (r := -101) (by rw [hf]; rfl) ?_
              refine lv_istore (lv' := [(9, .int (-101)), (8, .int (cntI (fun k => decide ((O 0) 4 k = (nI pn))) N 0 0)), (7, .int (nI qn)), (6, .int (nI pn)), (5, .int (nI N)), (4, .int (1)), (2, .long (stC (O 0) N K C)), (0, .ref (v 0)), (1, .int (nI w))]) hx hb dL_ahead_399 hl (by decide) rfl (fun ls hl => ?_)
              refine lv_aload_n hx hb dL_ahead_401 rfl (lv_at hl 7 rfl) ?_
              refine lv_iconst (v := 0) hx hb dL_ahead_402 (by decide) ?_
              refine lv_iload hx hb dL_ahead_403 (lv_at hl 3 rfl) ?_
              refine lv_iload hx hb dL_ahead_405 (lv_at hl 2 rfl) ?_
              refine lv_iconst (v := 5) hx hb dL_ahead_407 (by decide) ?_
              refine lv_iconst (v := 0) hx hb dL_ahead_408 (by decide) ?_
              refine lv_iconst (v := 0) hx hb dL_ahead_409 (by decide) ?_
              refine lqXi (As := [.ref (v 0), .int (0), .int (nI pn), .int (nI qn), .int (5), .int (0), .int (0)]) (rest := []) ⟨hx, hb, hml, hown, hts⟩ (c_ask_bad0w l hl9 D T aK aV v B Oa g ln una nxa pl f0 f1 f2 pn qn N K C nt hOIa (by omega) (by omega) (fun h9 => by rw [hOa, hf]; first | (exact absurd h9 (by omega)) | (exact fun e => by cases e)) hGa.un8 hGa.nx8 _) (vx_cwSW 7 hts (gC gl_L_call) rfl rfl rfl (by decide +kernel) ⟨Nat.le_of_ble_eq_true rfl, Nat.le_of_ble_eq_true rfl⟩) (Foc.rfl _ _) hC hNC hK hP hD hS hA rfl hl.1 rfl (Nat.le_of_ble_eq_true rfl) ⟨by show _ ≤ 25500; omega, by show _ ≤ 153000; omega⟩ dL_ahead_410 (fun H locs hP hD hS => ?_)
              have hP : va_P D vwCl (WIN T v B Oa g ln una nxa pl f0 f1 f2) H := hP
              have hD : va_D A (WIN T v B Oa g ln una nxa pl f0 f1 f2) := hD
              refine lv_istore (lv' := [(10, .int (-102)), (9, .int (-101)), (8, .int (cntI (fun k => decide ((O 0) 4 k = (nI pn))) N 0 0)), (7, .int (nI qn)), (6, .int (nI pn)), (5, .int (nI N)), (4, .int (1)), (2, .long (stC (O 0) N K C)), (0, .ref (v 0)), (1, .int (nI w))]) hx hb dL_ahead_413 hl (by decide) rfl (fun ls hl => ?_)
              refine lv_iload hx hb dL_ahead_415 (lv_at hl 1 rfl) ?_
              refine lv_if_ge (tgt := 427) hx hb dL_ahead_417 (by decide) (fun c417 => ?_) (fun c417 => ?_)
              ·
                exact absurd c417 (by decide)
              ·
                refine lv_iload hx hb dL_ahead_420 (lv_at hl 5 rfl) ?_
                refine lv_bipush (v := 24) hx hb dL_ahead_422 (by decide) ?_
                refine lv_icmp_ne (tgt := 449) hx hb dL_ahead_424 (by decide) (fun c424 => ?_) (fun c424 => ?_)
                ·
                  have c424 : ¬ N = 24 := fun h9 => c424 ((nI_eq (a := N) (b := 24) (by omega) (by omega)).mpr h9)
                  exfalso; omega
                ·
                  have c424 : N = 24 := (nI_eq (a := N) (b := 24) (by omega) (by omega)).mp c424
                  refine lv_iload hx hb dL_ahead_427 (lv_at hl 6 rfl) ?_
                  refine lv_if_eq (tgt := 443) hx hb dL_ahead_429 (by decide) (fun c429 => ?_) (fun c429 => ?_)
                  ·
                    exact absurd c429 (by decide)
                  ·
                    refine lv_iload hx hb dL_ahead_432 (lv_at hl 0 rfl) ?_
                    refine lv_bipush (v := -102) hx hb dL_ahead_434 (by decide) ?_
                    refine lv_icmp_ne (tgt := 443) hx hb dL_ahead_436 (by decide) (fun c436 => ?_) (fun c436 => ?_)
                    ·
                      exact absurd c436 (by decide)
                    ·
                      refine lv_iconst (v := 1) hx hb dL_ahead_439 (by decide) ?_
                      refine lv_goto (tgt := 444) hx hb dL_ahead_440 (by decide) ?_
                      refine lv_istore (lv' := [(4, .int (1)), (10, .int (-102)), (9, .int (-101)), (8, .int (cntI (fun k => decide ((O 0) 4 k = (nI pn))) N 0 0)), (7, .int (nI qn)), (6, .int (nI pn)), (5, .int (nI N)), (2, .long (stC (O 0) N K C)), (0, .ref (v 0)), (1, .int (nI w))]) hx hb dL_ahead_444 hl (by decide) rfl (fun ls hl => ?_)
                      refine lv_goto (tgt := 539) hx hb dL_ahead_446 (by decide) ?_
                      refine lv_iload hx hb dL_ahead_539 (lv_at hl 0 rfl) ?_
                      refine lv_if_eq (tgt := 604) hx hb dL_ahead_541 (by decide) (fun c541 => ?_) (fun c541 => ?_)
                      ·
                        exact absurd c541 (by decide)
                      ·
                        refine lv_aload_n hx hb dL_ahead_544 rfl (lv_at hl 8 rfl) ?_
                        refine lv_iconst (v := 0) hx hb dL_ahead_545 (by decide) ?_
                        refine lv_bipush (v := 100) hx hb dL_ahead_546 (by decide) ?_
                        refine lv_iconst (v := 0) hx hb dL_ahead_548 (by decide) ?_
                        refine lv_iconst (v := 5) hx hb dL_ahead_549 (by decide) ?_
                        refine lv_iconst (v := 0) hx hb dL_ahead_550 (by decide) ?_
                        refine lv_iconst (v := 0) hx hb dL_ahead_551 (by decide) ?_
                        refine lqXi (As := [.ref (v 0), .int (0), .int (100), .int (0), .int (5), .int (0), .int (0)]) (rest := []) ⟨hx, hb, hml, hown, hts⟩ (c_ask_bad0p l hl9 D T aK aV v B Oa g ln una nxa pl f0 f1 f2 N K C nt hOIa hGa.un8 hGa.nx8 _) (vx_cwSW 7 hts (gC gl_L_call) rfl rfl rfl (by decide +kernel) ⟨Nat.le_of_ble_eq_true rfl, Nat.le_of_ble_eq_true rfl⟩) (Foc.rfl _ _) hC hNC hK hP hD hS hA rfl hl.1 rfl (Nat.le_of_ble_eq_true rfl) ⟨by show _ ≤ 25500; omega, by show _ ≤ 153000; omega⟩ dL_ahead_552 (fun H locs hP hD hS => ?_)
                        have hP : va_P D vwCl (WIN T v B Oa g ln una nxa pl f0 f1 f2) H := hP
                        have hD : va_D A (WIN T v B Oa g ln una nxa pl f0 f1 f2) := hD
                        refine lv_bipush (v := -103) hx hb dL_ahead_555 (by decide) ?_
                        refine lv_icmp_ne (tgt := 604) hx hb dL_ahead_557 (by decide) (fun c557 => ?_) (fun c557 => ?_)
                        ·
                          exact absurd c557 (by decide)
                        ·
                          refine lv_aload_n hx hb dL_ahead_560 rfl (lv_at hl 8 rfl) ?_
                          refine lv_iconst (v := 0) hx hb dL_ahead_561 (by decide) ?_
                          refine lv_iconst (v := 0) hx hb dL_ahead_562 (by decide) ?_
                          refine lv_iconst (v := 4) hx hb dL_ahead_563 (by decide) ?_
                          refine lv_iconst (v := 5) hx hb dL_ahead_564 (by decide) ?_
                          refine lv_iconst (v := 0) hx hb dL_ahead_565 (by decide) ?_
                          refine lv_iconst (v := 0) hx hb dL_ahead_566 (by decide) ?_
                          refine lqXi (As := [.ref (v 0), .int (0), .int (0), .int (4), .int (5), .int (0), .int (0)]) (rest := []) ⟨hx, hb, hml, hown, hts⟩ (c_ask_bad0s l hl9 D T aK aV v B Oa g ln una nxa pl f0 f1 f2 N K C nt hOIa hGa.un8 hGa.nx8 _) (vx_cwSW 7 hts (gC gl_L_call) rfl rfl rfl (by decide +kernel) ⟨Nat.le_of_ble_eq_true rfl, Nat.le_of_ble_eq_true rfl⟩) (Foc.rfl _ _) hC hNC hK hP hD hS hA rfl hl.1 rfl (Nat.le_of_ble_eq_true rfl) ⟨by show _ ≤ 25500; omega, by show _ ≤ 153000; omega⟩ dL_ahead_567 (fun H locs hP hD hS => ?_)
                          have hP : va_P D vwCl (WIN T v B Oa g ln una nxa pl f0 f1 f2) H := hP
                          have hD : va_D A (WIN T v B Oa g ln una nxa pl f0 f1 f2) := hD
                          refine lv_bipush (v := -103) hx hb dL_ahead_570 (by decide) ?_
                          refine lv_icmp_ne (tgt := 604) hx hb dL_ahead_572 (by decide) (fun c572 => ?_) (fun c572 => ?_)
                          ·
                            exact absurd c572 (by decide)
                          ·
                            refine lv_aload_n hx hb dL_ahead_575 rfl (lv_at hl 8 rfl) ?_
                            refine lv_iconst (v := 0) hx hb dL_ahead_576 (by decide) ?_
                            refine lv_iconst (v := 0) hx hb dL_ahead_577 (by decide) ?_
                            refine lv_iconst (v := 0) hx hb dL_ahead_578 (by decide) ?_
                            refine lv_bipush (v := 10) hx hb dL_ahead_579 (by decide) ?_
                            refine lv_iconst (v := 0) hx hb dL_ahead_581 (by decide) ?_
                            refine lv_iconst (v := 0) hx hb dL_ahead_582 (by decide) ?_
                            refine lqXi (As := [.ref (v 0), .int (0), .int (0), .int (0), .int (10), .int (0), .int (0)]) (rest := []) ⟨hx, hb, hml, hown, hts⟩ (c_ask_bad0a l hl9 D T aK aV v B Oa g ln una nxa pl f0 f1 f2 N K C nt hOIa hGa.un8 hGa.nx8 _) (vx_cwSW 7 hts (gC gl_L_call) rfl rfl rfl (by decide +kernel) ⟨Nat.le_of_ble_eq_true rfl, Nat.le_of_ble_eq_true rfl⟩) (Foc.rfl _ _) hC hNC hK hP hD hS hA rfl hl.1 rfl (Nat.le_of_ble_eq_true rfl) ⟨by show _ ≤ 25500; omega, by show _ ≤ 153000; omega⟩ dL_ahead_583 (fun H locs hP hD hS => ?_)
                            have hP : va_P D vwCl (WIN T v B Oa g ln una nxa pl f0 f1 f2) H := hP
                            have hD : va_D A (WIN T v B Oa g ln una nxa pl f0 f1 f2) := hD
                            refine lv_bipush (v := -103) hx hb dL_ahead_586 (by decide) ?_
                            refine lv_icmp_ne (tgt := 604) hx hb dL_ahead_588 (by decide) (fun c588 => ?_) (fun c588 => ?_)
                            ·
                              exact absurd c588 (by decide)
                            ·
                              refine lv_aload_n hx hb dL_ahead_591 rfl (lv_at hl 8 rfl) ?_
                              refine lqSl (As := [.ref (v 0)]) (rest := []) ⟨hx, hb, hml, hown, hts⟩ (c_L_state l hl9 D T aK aV v B Oa g ln una nxa pl f0 f1 f2 N K C nt hOIa _) (va_cwS 1 hts (gC gl_L_state) rfl rfl rfl (by decide +kernel) ⟨Nat.le_of_ble_eq_true rfl, Nat.le_of_ble_eq_true rfl⟩) (Foc.rfl _ _) hC hNC hK hP hD hS hA rfl hl.1 rfl (Nat.le_of_ble_eq_true rfl) ⟨by show _ ≤ 25500; omega, by show _ ≤ 153000; omega⟩ dL_ahead_592 (fun H locs hP hD hS => ?_)
                              have hP : va_P D vwCl (WIN T v B Oa g ln una nxa pl f0 f1 f2) H := hP
                              have hD : va_D A (WIN T v B Oa g ln una nxa pl f0 f1 f2) := hD
                              refine endL (r := stC (O 0) N K C) (by rw [hOa]) ?_
                              refine lv_lload_n hx hb dL_ahead_595 rfl (lv_at hl 7 rfl) ?_
                              refine W.lcmp hx hb dL_ahead_596 ?_
                              refine endI (r := 0) ((lg_cmp_eq _ _).mpr rfl) ?_
                              refine lv_if_ne (tgt := 604) hx hb dL_ahead_597 (by decide) (fun c597 => ?_) (fun c597 => ?_)
                              ·
                                exact absurd c597 (by decide)
                              ·
                                refine lv_iconst (v := 1) hx hb dL_ahead_600 (by decide) ?_
                                refine lv_goto (tgt := 605) hx hb dL_ahead_601 (by decide) ?_
                                exact hret _ _ _ _ _ _ 1 (Oa, una, nxa) dL_ahead_605 ⟨rfl, hOa, hGa⟩ hP hD hS (by omega) (by omega)
          ·
            have hjf := (findC_lt hf).1
            refine lv_aload_n hx hb dL_ahead_389 rfl (lv_at hl 6 rfl) ?_
            refine lv_bipush (v := 33) hx hb dL_ahead_390 (by decide) ?_
            refine lv_iload hx hb dL_ahead_392 (lv_at hl 2 rfl) ?_
            refine lv_iload hx hb dL_ahead_394 (lv_at hl 1 rfl) ?_
            refine lqSi (As := [.ref (v 0), .int (33), .int (nI pn), .int (nI qn)]) (rest := []) ⟨hx, hb, hml, hown, hts⟩ (c_ask_waitingOf l hl9 D T aK aV v B Oa g ln una nxa pl f0 f1 f2 (nI pn) (nI qn) N K C nt hOIa (rg_99 (by omega)) (rg_3 (by omega)) _) (va_cwS 4 hts (gC gl_L_call_) rfl rfl rfl (by decide +kernel) ⟨Nat.le_of_ble_eq_true rfl, Nat.le_of_ble_eq_true rfl⟩) (Foc.rfl _ _) hC hNC hK hP hD hS hA rfl hl.1 rfl (Nat.le_of_ble_eq_true rfl) ⟨by show _ ≤ 25500; omega, by show _ ≤ 153000; omega⟩ dL_ahead_396 (fun H locs hP hD hS => ?_)
            have hP : va_P D vwCl (WIN T v B Oa g ln una nxa pl f0 f1 f2) H := hP
            have hD : va_D A (WIN T v B Oa g ln una nxa pl f0 f1 f2) := hD
            refine endI (r := (findC (O 0) (nI pn) (nI qn) N).elim (-101) nI) (by rw [hOa]) ?_
            refine endI (r := nI jf) (by rw [hf]; rfl) ?_
            refine lv_istore (lv' := [(9, .int (nI jf)), (8, .int (cntI (fun k => decide ((O 0) 4 k = (nI pn))) N 0 0)), (7, .int (nI qn)), (6, .int (nI pn)), (5, .int (nI N)), (4, .int (1)), (2, .long (stC (O 0) N K C)), (0, .ref (v 0)), (1, .int (nI w))]) hx hb dL_ahead_399 hl (by decide) rfl (fun ls hl => ?_)
            refine lv_aload_n hx hb dL_ahead_401 rfl (lv_at hl 7 rfl) ?_
            refine lv_iconst (v := 0) hx hb dL_ahead_402 (by decide) ?_
            refine lv_iload hx hb dL_ahead_403 (lv_at hl 3 rfl) ?_
            refine lv_iload hx hb dL_ahead_405 (lv_at hl 2 rfl) ?_
            refine lv_iconst (v := 5) hx hb dL_ahead_407 (by decide) ?_
            refine lv_iconst (v := 0) hx hb dL_ahead_408 (by decide) ?_
            refine lv_iconst (v := 0) hx hb dL_ahead_409 (by decide) ?_
            refine lqXi (As := [.ref (v 0), .int (0), .int (nI pn), .int (nI qn), .int (5), .int (0), .int (0)]) (rest := []) ⟨hx, hb, hml, hown, hts⟩ (c_ask_bad0w l hl9 D T aK aV v B Oa g ln una nxa pl f0 f1 f2 pn qn N K C nt hOIa (by omega) (by omega) (fun h9 => by rw [hOa, hf]; first | (exact absurd h9 (by omega)) | (exact fun e => by cases e)) hGa.un8 hGa.nx8 _) (vx_cwSW 7 hts (gC gl_L_call) rfl rfl rfl (by decide +kernel) ⟨Nat.le_of_ble_eq_true rfl, Nat.le_of_ble_eq_true rfl⟩) (Foc.rfl _ _) hC hNC hK hP hD hS hA rfl hl.1 rfl (Nat.le_of_ble_eq_true rfl) ⟨by show _ ≤ 25500; omega, by show _ ≤ 153000; omega⟩ dL_ahead_410 (fun H locs hP hD hS => ?_)
            have hP : va_P D vwCl (WIN T v B Oa g ln una nxa pl f0 f1 f2) H := hP
            have hD : va_D A (WIN T v B Oa g ln una nxa pl f0 f1 f2) := hD
            refine lv_istore (lv' := [(10, .int (-102)), (9, .int (nI jf)), (8, .int (cntI (fun k => decide ((O 0) 4 k = (nI pn))) N 0 0)), (7, .int (nI qn)), (6, .int (nI pn)), (5, .int (nI N)), (4, .int (1)), (2, .long (stC (O 0) N K C)), (0, .ref (v 0)), (1, .int (nI w))]) hx hb dL_ahead_413 hl (by decide) rfl (fun ls hl => ?_)
            refine lv_iload hx hb dL_ahead_415 (lv_at hl 1 rfl) ?_
            refine lv_if_ge (tgt := 427) hx hb dL_ahead_417 (by decide) (fun c417 => ?_) (fun c417 => ?_)
            ·
              have c417 : 0 ≤ jf := (nI_leI (a := 0) (b := jf) (by omega) (by omega)).mp c417
              refine lv_iload hx hb dL_ahead_427 (lv_at hl 6 rfl) ?_
              refine lv_if_eq (tgt := 443) hx hb dL_ahead_429 (by decide) (fun c429 => ?_) (fun c429 => ?_)
              ·
                exact absurd c429 (by decide)
              ·
                refine lv_iload hx hb dL_ahead_432 (lv_at hl 0 rfl) ?_
                refine lv_bipush (v := -102) hx hb dL_ahead_434 (by decide) ?_
                refine lv_icmp_ne (tgt := 443) hx hb dL_ahead_436 (by decide) (fun c436 => ?_) (fun c436 => ?_)
                ·
                  exact absurd c436 (by decide)
                ·
                  refine lv_iconst (v := 1) hx hb dL_ahead_439 (by decide) ?_
                  refine lv_goto (tgt := 444) hx hb dL_ahead_440 (by decide) ?_
                  refine lv_istore (lv' := [(4, .int (1)), (10, .int (-102)), (9, .int (nI jf)), (8, .int (cntI (fun k => decide ((O 0) 4 k = (nI pn))) N 0 0)), (7, .int (nI qn)), (6, .int (nI pn)), (5, .int (nI N)), (2, .long (stC (O 0) N K C)), (0, .ref (v 0)), (1, .int (nI w))]) hx hb dL_ahead_444 hl (by decide) rfl (fun ls hl => ?_)
                  refine lv_goto (tgt := 539) hx hb dL_ahead_446 (by decide) ?_
                  refine lv_iload hx hb dL_ahead_539 (lv_at hl 0 rfl) ?_
                  refine lv_if_eq (tgt := 604) hx hb dL_ahead_541 (by decide) (fun c541 => ?_) (fun c541 => ?_)
                  ·
                    exact absurd c541 (by decide)
                  ·
                    refine lv_aload_n hx hb dL_ahead_544 rfl (lv_at hl 8 rfl) ?_
                    refine lv_iconst (v := 0) hx hb dL_ahead_545 (by decide) ?_
                    refine lv_bipush (v := 100) hx hb dL_ahead_546 (by decide) ?_
                    refine lv_iconst (v := 0) hx hb dL_ahead_548 (by decide) ?_
                    refine lv_iconst (v := 5) hx hb dL_ahead_549 (by decide) ?_
                    refine lv_iconst (v := 0) hx hb dL_ahead_550 (by decide) ?_
                    refine lv_iconst (v := 0) hx hb dL_ahead_551 (by decide) ?_
                    refine lqXi (As := [.ref (v 0), .int (0), .int (100), .int (0), .int (5), .int (0), .int (0)]) (rest := []) ⟨hx, hb, hml, hown, hts⟩ (c_ask_bad0p l hl9 D T aK aV v B Oa g ln una nxa pl f0 f1 f2 N K C nt hOIa hGa.un8 hGa.nx8 _) (vx_cwSW 7 hts (gC gl_L_call) rfl rfl rfl (by decide +kernel) ⟨Nat.le_of_ble_eq_true rfl, Nat.le_of_ble_eq_true rfl⟩) (Foc.rfl _ _) hC hNC hK hP hD hS hA rfl hl.1 rfl (Nat.le_of_ble_eq_true rfl) ⟨by show _ ≤ 25500; omega, by show _ ≤ 153000; omega⟩ dL_ahead_552 (fun H locs hP hD hS => ?_)
                    have hP : va_P D vwCl (WIN T v B Oa g ln una nxa pl f0 f1 f2) H := hP
                    have hD : va_D A (WIN T v B Oa g ln una nxa pl f0 f1 f2) := hD
                    refine lv_bipush (v := -103) hx hb dL_ahead_555 (by decide) ?_
                    refine lv_icmp_ne (tgt := 604) hx hb dL_ahead_557 (by decide) (fun c557 => ?_) (fun c557 => ?_)
                    ·
                      exact absurd c557 (by decide)
                    ·
                      refine lv_aload_n hx hb dL_ahead_560 rfl (lv_at hl 8 rfl) ?_
                      refine lv_iconst (v := 0) hx hb dL_ahead_561 (by decide) ?_
                      refine lv_iconst (v := 0) hx hb dL_ahead_562 (by decide) ?_
                      refine lv_iconst (v := 4) hx hb dL_ahead_563 (by decide) ?_
                      refine lv_iconst (v := 5) hx hb dL_ahead_564 (by decide) ?_
                      refine lv_iconst (v := 0) hx hb dL_ahead_565 (by decide) ?_
                      refine lv_iconst (v := 0) hx hb dL_ahead_566 (by decide) ?_
                      refine lqXi (As := [.ref (v 0), .int (0), .int (0), .int (4), .int (5), .int (0), .int (0)]) (rest := []) ⟨hx, hb, hml, hown, hts⟩ (c_ask_bad0s l hl9 D T aK aV v B Oa g ln una nxa pl f0 f1 f2 N K C nt hOIa hGa.un8 hGa.nx8 _) (vx_cwSW 7 hts (gC gl_L_call) rfl rfl rfl (by decide +kernel) ⟨Nat.le_of_ble_eq_true rfl, Nat.le_of_ble_eq_true rfl⟩) (Foc.rfl _ _) hC hNC hK hP hD hS hA rfl hl.1 rfl (Nat.le_of_ble_eq_true rfl) ⟨by show _ ≤ 25500; omega, by show _ ≤ 153000; omega⟩ dL_ahead_567 (fun H locs hP hD hS => ?_)
                      have hP : va_P D vwCl (WIN T v B Oa g ln una nxa pl f0 f1 f2) H := hP
                      have hD : va_D A (WIN T v B Oa g ln una nxa pl f0 f1 f2) := hD
                      refine lv_bipush (v := -103) hx hb dL_ahead_570 (by decide) ?_
                      refine lv_icmp_ne (tgt := 604) hx hb dL_ahead_572 (by decide) (fun c572 => ?_) (fun c572 => ?_)
                      ·
                        exact absurd c572 (by decide)
                      ·
                        refine lv_aload_n hx hb dL_ahead_575 rfl (lv_at hl 8 rfl) ?_
                        refine lv_iconst (v := 0) hx hb dL_ahead_576 (by decide) ?_
                        refine lv_iconst (v := 0) hx hb dL_ahead_577 (by decide) ?_
                        refine lv_iconst (v := 0) hx hb dL_ahead_578 (by decide) ?_
                        refine lv_bipush (v := 10) hx hb dL_ahead_579 (by decide) ?_
                        refine lv_iconst (v := 0) hx hb dL_ahead_581 (by decide) ?_
                        refine lv_iconst (v := 0) hx hb dL_ahead_582 (by decide) ?_
                        refine lqXi (As := [.ref (v 0), .int (0), .int (0), .int (0), .int (10), .int (0), .int (0)]) (rest := []) ⟨hx, hb, hml, hown, hts⟩ (c_ask_bad0a l hl9 D T aK aV v B Oa g ln una nxa pl f0 f1 f2 N K C nt hOIa hGa.un8 hGa.nx8 _) (vx_cwSW 7 hts (gC gl_L_call) rfl rfl rfl (by decide +kernel) ⟨Nat.le_of_ble_eq_true rfl, Nat.le_of_ble_eq_true rfl⟩) (Foc.rfl _ _) hC hNC hK hP hD hS hA rfl hl.1 rfl (Nat.le_of_ble_eq_true rfl) ⟨by show _ ≤ 25500; omega, by show _ ≤ 153000; omega⟩ dL_ahead_583 (fun H locs hP hD hS => ?_)
                        have hP : va_P D vwCl (WIN T v B Oa g ln una nxa pl f0 f1 f2) H := hP
                        have hD : va_D A (WIN T v B Oa g ln una nxa pl f0 f1 f2) := hD
                        refine lv_bipush (v := -103) hx hb dL_ahead_586 (by decide) ?_
                        refine lv_icmp_ne (tgt := 604) hx hb dL_ahead_588 (by decide) (fun c588 => ?_) (fun c588 => ?_)
                        ·
                          exact absurd c588 (by decide)
                        ·
                          refine lv_aload_n hx hb dL_ahead_591 rfl (lv_at hl 8 rfl) ?_
                          refine lqSl (As := [.ref (v 0)]) (rest := []) ⟨hx, hb, hml, hown, hts⟩ (c_L_state l hl9 D T aK aV v B Oa g ln una nxa pl f0 f1 f2 N K C nt hOIa _) (va_cwS 1 hts (gC gl_L_state) rfl rfl rfl (by decide +kernel) ⟨Nat.le_of_ble_eq_true rfl, Nat.le_of_ble_eq_true rfl⟩) (Foc.rfl _ _) hC hNC hK hP hD hS hA rfl hl.1 rfl (Nat.le_of_ble_eq_true rfl) ⟨by show _ ≤ 25500; omega, by show _ ≤ 153000; omega⟩ dL_ahead_592 (fun H locs hP hD hS => ?_)
                          have hP : va_P D vwCl (WIN T v B Oa g ln una nxa pl f0 f1 f2) H := hP
                          have hD : va_D A (WIN T v B Oa g ln una nxa pl f0 f1 f2) := hD
                          refine endL (r := stC (O 0) N K C) (by rw [hOa]) ?_
                          refine lv_lload_n hx hb dL_ahead_595 rfl (lv_at hl 7 rfl) ?_
                          refine W.lcmp hx hb dL_ahead_596 ?_
                          refine endI (r := 0) ((lg_cmp_eq _ _).mpr rfl) ?_
                          refine lv_if_ne (tgt := 604) hx hb dL_ahead_597 (by decide) (fun c597 => ?_) (fun c597 => ?_)
                          ·
                            exact absurd c597 (by decide)
                          ·
                            refine lv_iconst (v := 1) hx hb dL_ahead_600 (by decide) ?_
                            refine lv_goto (tgt := 605) hx hb dL_ahead_601 (by decide) ?_
                            exact hret _ _ _ _ _ _ 1 (Oa, una, nxa) dL_ahead_605 ⟨rfl, hOa, hGa⟩ hP hD hS (by omega) (by omega)
            ·
              have c417 : ¬ 0 ≤ jf := fun h9 => c417 ((nI_leI (a := 0) (b := jf) (by omega) (by omega)).mpr h9)
              exfalso; omega
        ·
          have c27 : ¬ N ≤ k := fun h9 => c27 ((nI_leI (a := N) (b := k) (by omega) (by omega)).mpr h9)
          refine lv_iload hx hb dL_ahead_30 (lv_at hl 2 rfl) ?_
          refine lv_if_eq (tgt := 360) hx hb dL_ahead_32 (by decide) (fun c32 => ?_) (fun c32 => ?_)
          ·
            exact absurd c32 (by decide)
          ·
            obtain ⟨pp, qq, aa, ff, hpp, hqq, haa, ha9, hff, e4, e5, e6, e7, hst⟩ := hOV.co k (by omega)
            have hw56 : (O 0) 8 k = 0 → nt < ff + 56 := by
                intro h8
                rcases hst with ⟨-, -, hw⟩ | ⟨c9, -, -, -, -, ⟨e8, -⟩ | ⟨e8, -⟩ | ⟨e8, -⟩⟩
                · exact hw
                · rw [h8] at e8; exact absurd e8 (by decide)
                · rw [h8] at e8; exact absurd e8 (by decide)
                · rw [h8] at e8; exact absurd e8 (by decide)
            clear hst
            rcases Classical.em ((O 0) 8 k = 0) with h8 | h8
            ·
              have hw9 := hw56 h8
              obtain ⟨u1, u2, u3, u4, u5⟩ := until_pN (N := N) (K := K) (C := C) (j := k) (f := ff) (by omega) 56 nt (O 0) hOV (by omega) e7 (by omega) (by omega)
              obtain ⟨nn, hnn⟩ : ∃ nn, nn = (cUntil N K C k 56 nt (O 0)).1 := ⟨_, rfl⟩
              rw [← hnn] at u1 u2 u3 u4 u5
              replace u4 := u4 h8
              replace u5 := u5 h8
              rcases Classical.em (pN N K C nn nt (O 0) 8 k = 1) with hwA | hwA
              ·
                refine lv_aload_n hx hb dL_ahead_35 rfl (lv_at hl 4 rfl) ?_
                refine lv_bipush (v := 41) hx hb dL_ahead_36 (by decide) ?_
                refine lv_iload hx hb dL_ahead_38 (lv_at hl 0 rfl) ?_
                refine lcSi (S := S3) (ws1 := fun u => (WIN T v B u.1 g ln u.2.1 u.2.2 pl f0 f1 f2 : va_W)) (wc1 := fun u => WIN T v B u.1 g ln u.2.1 u.2.2 pl f0 f1 f2) (As := [.ref (v 0), .int (41), .int (nI k)]) (rest := []) ⟨hx, hb, hml, hown, hts⟩ (c_ex_close l hl9 D T aK aV v B Oa g ln una nxa pl f0 f1 f2 k N K C nt hOVa hGa (by omega) (by rw [hOa]; exact h8) (by omega) _) (va_cwS 3 hts (gC gl_L_call__) rfl rfl rfl (by decide +kernel) ⟨Nat.le_of_ble_eq_true rfl, Nat.le_of_ble_eq_true rfl⟩) (fun u => Foc.rfl _ _) (Foc.rfl _ _) hC hNC hK hP hD hS hA rfl hl.1 rfl (Nat.le_of_ble_eq_true rfl) ⟨by show _ ≤ 25500; omega, by show _ ≤ 153000; omega⟩ dL_ahead_40 (fun r9 u H locs hr hP hD hS => ?_)
                obtain ⟨Op40, unp40, nxp40⟩ := u
                obtain ⟨hr, hOp40, hGp40⟩ := hr
                replace hOp40 : Op40 0 = O 0 := hOp40.trans hOa
                replace hGp40 : GW Op40 unp40 nxp40 f2 := hGp40
                have hOVp40 : OV (Op40 0) N K C nt := by rw [hOp40]; exact hOV
                have hOIp40 := hOVp40.oi
                replace hr : r9 = nI nn := by rw [hnn, ← hOa]; exact hr
                subst hr
                have hP : va_P D vwCl (WIN T v B Op40 g ln unp40 nxp40 pl f0 f1 f2) H := hP
                have hD : va_D A (WIN T v B Op40 g ln unp40 nxp40 pl f0 f1 f2) := hD
                refine lv_istore (lv' := [(7, .int (nI nn)), (6, .int (nI k)), (5, .int (nI N)), (4, .int (1)), (2, .long (stC (O 0) N K C)), (0, .ref (v 0)), (1, .int (nI w))]) hx hb dL_ahead_43 hl (by decide) rfl (fun ls hl => ?_)
                refine lv_aload_n hx hb dL_ahead_45 rfl (lv_at hl 5 rfl) ?_
                refine lv_bipush (v := 42) hx hb dL_ahead_46 (by decide) ?_
                refine lv_iload hx hb dL_ahead_48 (lv_at hl 1 rfl) ?_
                refine lcSi (S := S3) (ws1 := fun u => (WIN T v B u.1 g ln u.2.1 u.2.2 pl f0 f1 f2 : va_W)) (wc1 := fun u => WIN T v B u.1 g ln u.2.1 u.2.2 pl f0 f1 f2) (As := [.ref (v 0), .int (42), .int (nI k)]) (rest := []) ⟨hx, hb, hml, hown, hts⟩ (c_ex_will l hl9 D T aK aV v B Op40 g ln unp40 nxp40 pl f0 f1 f2 k N K C nt hOVp40 hGp40 (by omega) (by rw [hOp40]; exact h8) (by omega) _) (va_cwS 3 hts (gC gl_L_call__) rfl rfl rfl (by decide +kernel) ⟨Nat.le_of_ble_eq_true rfl, Nat.le_of_ble_eq_true rfl⟩) (fun u => Foc.rfl _ _) (Foc.rfl _ _) hC hNC hK hP hD hS hA rfl hl.1 rfl (Nat.le_of_ble_eq_true rfl) ⟨by show _ ≤ 25500; omega, by show _ ≤ 153000; omega⟩ dL_ahead_50 (fun r9 u H locs hr hP hD hS => ?_)
                obtain ⟨Op50, unp50, nxp50⟩ := u
                obtain ⟨hr, hOp50, hGp50⟩ := hr
                replace hOp50 : Op50 0 = O 0 := hOp50.trans hOp40
                replace hGp50 : GW Op50 unp50 nxp50 f2 := hGp50
                have hOVp50 : OV (Op50 0) N K C nt := by rw [hOp50]; exact hOV
                have hOIp50 := hOVp50.oi
                replace hr : r9 = 1 := by
                    rw [hOp40] at hr
                    refine hr.trans ?_
                    rw [u1, decide_eq_true (hwA :  pN N K C nn nt (O 0) 8 k = 1)]; rfl
                subst hr
                have hP : va_P D vwCl (WIN T v B Op50 g ln unp50 nxp50 pl f0 f1 f2) H := hP
                have hD : va_D A (WIN T v B Op50 g ln unp50 nxp50 pl f0 f1 f2) := hD
                refine lv_istore (lv' := [(8, .int (1)), (7, .int (nI nn)), (6, .int (nI k)), (5, .int (nI N)), (4, .int (1)), (2, .long (stC (O 0) N K C)), (0, .ref (v 0)), (1, .int (nI w))]) hx hb dL_ahead_53 hl (by decide) rfl (fun ls hl => ?_)
                refine lv_aload_n hx hb dL_ahead_55 rfl (lv_at hl 6 rfl) ?_
                refine lv_bipush (v := 27) hx hb dL_ahead_56 (by decide) ?_
                refine lv_iload hx hb dL_ahead_58 (lv_at hl 2 rfl) ?_
                refine lqSi (As := [.ref (v 0), .int (27), .int (nI k)]) (rest := []) ⟨hx, hb, hml, hown, hts⟩ (c_ask_isWaiting l hl9 D T aK aV v B Op50 g ln unp50 nxp50 pl f0 f1 f2 k N K C nt hOIp50 (by omega) _) (va_cwS 3 hts (gC gl_L_call__) rfl rfl rfl (by decide +kernel) ⟨Nat.le_of_ble_eq_true rfl, Nat.le_of_ble_eq_true rfl⟩) (Foc.rfl _ _) hC hNC hK hP hD hS hA rfl hl.1 rfl (Nat.le_of_ble_eq_true rfl) ⟨by show _ ≤ 25500; omega, by show _ ≤ 153000; omega⟩ dL_ahead_60 (fun H locs hP hD hS => ?_)
                have hP : va_P D vwCl (WIN T v B Op50 g ln unp50 nxp50 pl f0 f1 f2) H := hP
                have hD : va_D A (WIN T v B Op50 g ln unp50 nxp50 pl f0 f1 f2) := hD
                refine endI (r := bI (decide ((O 0) 8 k = 0))) (by rw [hOp50]) ?_
                refine endI (r := 1) (by rw [h8]; rfl) ?_
                refine lv_if_ne (tgt := 102) hx hb dL_ahead_63 (by decide) (fun c63 => ?_) (fun c63 => ?_)
                ·
                  refine lv_aload_n hx hb dL_ahead_102 rfl (lv_at hl 6 rfl) ?_
                  refine rdV (As := []) (rest := []) ⟨hx, hb, hml, hown, hts⟩ (c_X9_night l D T v B Op50 g ln unp50 nxp50 pl f0 f1 f2 ) (cwV 0 hts (gC gl_X9_night) rfl rfl rfl (by decide +kernel) ⟨Nat.le_of_ble_eq_true rfl, Nat.le_of_ble_eq_true rfl⟩) hK hP 0 rfl rfl rfl hl.1 rfl (Nat.le_of_ble_eq_true rfl) ⟨by show _ ≤ 25500; omega, by show _ ≤ 153000; omega⟩ dL_ahead_103 ?_
                  refine endI (r := (O 0) 0 0) (by rw [hOp50]) ?_
                  refine endI (r := nI nt) (hn) ?_
                  refine lv_aload_n hx hb dL_ahead_106 rfl (lv_at hl 6 rfl) ?_
                  refine lv_bipush (v := 26) hx hb dL_ahead_107 (by decide) ?_
                  refine lv_iload hx hb dL_ahead_109 (lv_at hl 2 rfl) ?_
                  refine lqSi (As := [.ref (v 0), .int (26), .int (nI k)]) (rest := [.int (nI nt)]) ⟨hx, hb, hml, hown, hts⟩ (c_ask_filedIn l hl9 D T aK aV v B Op50 g ln unp50 nxp50 pl f0 f1 f2 k N K C nt hOIp50 (by omega) _) (va_cwS 3 hts (gC gl_L_call__) rfl rfl rfl (by decide +kernel) ⟨Nat.le_of_ble_eq_true rfl, Nat.le_of_ble_eq_true rfl⟩) (Foc.rfl _ _) hC hNC hK hP hD hS hA rfl hl.1 rfl (Nat.le_of_ble_eq_true rfl) ⟨by show _ ≤ 25500; omega, by show _ ≤ 153000; omega⟩ dL_ahead_111 (fun H locs hP hD hS => ?_)
                  have hP : va_P D vwCl (WIN T v B Op50 g ln unp50 nxp50 pl f0 f1 f2) H := hP
                  have hD : va_D A (WIN T v B Op50 g ln unp50 nxp50 pl f0 f1 f2) := hD
                  refine endI (r := (O 0) 7 k) (by rw [hOp50]) ?_
                  refine endI (r := nI ff) (e7) ?_
                  refine lv_isub hx hb dL_ahead_114 ?_
                  refine endI (r := nI (nt - ff)) (pk_sub (a := nt) (b := ff) (by omega)) ?_
                  refine lv_istore (lv' := [(9, .int (nI (nt - ff))), (8, .int (1)), (7, .int (nI nn)), (6, .int (nI k)), (5, .int (nI N)), (4, .int (1)), (2, .long (stC (O 0) N K C)), (0, .ref (v 0)), (1, .int (nI w))]) hx hb dL_ahead_115 hl (by decide) rfl (fun ls hl => ?_)
                  refine lv_iload hx hb dL_ahead_117 (lv_at hl 2 rfl) ?_
                  refine lv_if_le (tgt := 147) hx hb dL_ahead_119 (by decide) (fun c119 => ?_) (fun c119 => ?_)
                  ·
                    have c119 : nn ≤ 0 := (nI_leI (a := nn) (b := 0) (by omega) (by omega)).mp c119
                    exfalso; omega
                  ·
                    have c119 : ¬ nn ≤ 0 := fun h9 => c119 ((nI_leI (a := nn) (b := 0) (by omega) (by omega)).mpr h9)
                    refine lv_iload hx hb dL_ahead_122 (lv_at hl 2 rfl) ?_
                    refine lv_bipush (v := 56) hx hb dL_ahead_124 (by decide) ?_
                    refine lv_iload hx hb dL_ahead_126 (lv_at hl 0 rfl) ?_
                    refine lv_isub hx hb dL_ahead_128 ?_
                    refine endI (r := nI (56 - (nt - ff))) (pk_sub (a := 56) (b := nt - ff) (by omega)) ?_
                    refine lv_icmp_gt (tgt := 147) hx hb dL_ahead_129 (by decide) (fun c129 => ?_) (fun c129 => ?_)
                    ·
                      have c129 : (56 - (nt - ff)) < nn := (nI_ltI (a := (56 - (nt - ff))) (b := nn) (by omega) (by omega)).mp c129
                      exfalso; omega
                    ·
                      have c129 : ¬ (56 - (nt - ff)) < nn := fun h9 => c129 ((nI_ltI (a := (56 - (nt - ff))) (b := nn) (by omega) (by omega)).mpr h9)
                      refine lv_iload hx hb dL_ahead_132 (lv_at hl 1 rfl) ?_
                      refine lv_iconst (v := 1) hx hb dL_ahead_134 (by decide) ?_
                      refine lv_icmp_eq (tgt := 143) hx hb dL_ahead_135 (by decide) (fun c135 => ?_) (fun c135 => ?_)
                      ·
                        refine lv_iconst (v := 1) hx hb dL_ahead_143 (by decide) ?_
                        refine lv_goto (tgt := 148) hx hb dL_ahead_144 (by decide) ?_
                        refine lv_istore (lv' := [(4, .int (1)), (9, .int (nI (nt - ff))), (8, .int (1)), (7, .int (nI nn)), (6, .int (nI k)), (5, .int (nI N)), (2, .long (stC (O 0) N K C)), (0, .ref (v 0)), (1, .int (nI w))]) hx hb dL_ahead_148 hl (by decide) rfl (fun ls hl => ?_)
                        refine lv_aload_n hx hb dL_ahead_150 rfl (lv_at hl 7 rfl) ?_
                        refine rdV (As := []) (rest := []) ⟨hx, hb, hml, hown, hts⟩ (c_X9_night l D T v B Op50 g ln unp50 nxp50 pl f0 f1 f2 ) (cwV 0 hts (gC gl_X9_night) rfl rfl rfl (by decide +kernel) ⟨Nat.le_of_ble_eq_true rfl, Nat.le_of_ble_eq_true rfl⟩) hK hP 0 rfl rfl rfl hl.1 rfl (Nat.le_of_ble_eq_true rfl) ⟨by show _ ≤ 25500; omega, by show _ ≤ 153000; omega⟩ dL_ahead_151 ?_
                        refine endI (r := (O 0) 0 0) (by rw [hOp50]) ?_
                        refine endI (r := nI nt) (hn) ?_
                        refine lv_iload hx hb dL_ahead_154 (lv_at hl 3 rfl) ?_
                        refine lv_iadd hx hb dL_ahead_156 ?_
                        refine endI (r := nI (nt + nn)) (nI_add _ _) ?_
                        refine lv_sipush (v := 999) hx hb dL_ahead_157 (by decide) ?_
                        refine lv_icmp_gt (tgt := 273) hx hb dL_ahead_160 (by decide) (fun c160 => ?_) (fun c160 => ?_)
                        ·
                          have c160 : 999 < (nt + nn) := (nI_ltI (a := 999) (b := (nt + nn)) (by omega) (by omega)).mp c160
                          refine lv_iload hx hb dL_ahead_273 (lv_at hl 0 rfl) ?_
                          refine lv_if_eq (tgt := 351) hx hb dL_ahead_275 (by decide) (fun c275 => ?_) (fun c275 => ?_)
                          ·
                            exact absurd c275 (by decide)
                          ·
                            refine lv_aload_n hx hb dL_ahead_278 rfl (lv_at hl 7 rfl) ?_
                            refine lv_iconst (v := 1) hx hb dL_ahead_279 (by decide) ?_
                            refine lv_iload hx hb dL_ahead_280 (lv_at hl 4 rfl) ?_
                            refine lcSi (S := S3) (ws1 := fun u => (WIN T v B u.1 g ln u.2.1 u.2.2 pl f0 f1 f2 : va_W)) (wc1 := fun u => WIN T v B u.1 g ln u.2.1 u.2.2 pl f0 f1 f2) (As := [.ref (v 0), .int (1), .int (nI k)]) (rest := []) ⟨hx, hb, hml, hown, hts⟩ (c_ex_give l hl9 D T aK aV v B Op50 g ln unp50 nxp50 pl f0 f1 f2 k N K C nt hOVp50 hGp50 (by omega) (by rw [hOp50]; exact h8) (by omega) _) (va_cwS 3 hts (gC gl_L_call__) rfl rfl rfl (by decide +kernel) ⟨Nat.le_of_ble_eq_true rfl, Nat.le_of_ble_eq_true rfl⟩) (fun u => Foc.rfl _ _) (Foc.rfl _ _) hC hNC hK hP hD hS hA rfl hl.1 rfl (Nat.le_of_ble_eq_true rfl) ⟨by show _ ≤ 25500; omega, by show _ ≤ 153000; omega⟩ dL_ahead_282 (fun r9 u H locs hr hP hD hS => ?_)
                            obtain ⟨Op282, unp282, nxp282⟩ := u
                            obtain ⟨og, hog⟩ : ∃ o9, o9 = pileClose (O 0) k 3 ((O 0) 0 0) (-1) := ⟨_, rfl⟩
                            have g8 : og 8 k = 3 := by rw [hog]; exact if_pos rfl
                            have g9 : og 9 k = nI nt := by rw [hog]; exact (if_pos rfl).trans hn
                            have g10 : og 10 k = -1 := by rw [hog]; exact if_pos rfl
                            have g00 : og 0 0 = nI nt := by rw [hog]; exact hn
                            obtain ⟨hr, hOp282, hGp282, hup282, htopp282⟩ := hr
                            replace hOp282 : Op282 0 = og := by rw [hog, ← hOp50]; exact hOp282
                            replace hGp282 : GW Op282 unp282 nxp282 f2 := hGp282
                            replace hup282 : 0 < unp282 := hup282
                            replace htopp282 : Op282 (3 + (nxp282 + 7) % 8) = O 0 := by rw [← hOp50]; exact htopp282
                            have hOVp282 : OV (Op282 0) (N) K C (nt) := by rw [hOp282]; exact by rw [hog]; exact hOV.give (by omega) h8
                            have hOIp282 := hOVp282.oi
                            have hunp282 := hGp282.un8
                            replace hr : r9 = nI (nt - ff) := by rw [hr, hOp50, hn, e7]; exact pk_sub (by omega)
                            subst hr
                            have hP : va_P D vwCl (WIN T v B Op282 g ln unp282 nxp282 pl f0 f1 f2) H := hP
                            have hD : va_D A (WIN T v B Op282 g ln unp282 nxp282 pl f0 f1 f2) := hD
                            refine lv_iload hx hb dL_ahead_285 (lv_at hl 1 rfl) ?_
                            refine lv_icmp_ne (tgt := 351) hx hb dL_ahead_287 (by decide) (fun c287 => ?_) (fun c287 => ?_)
                            ·
                              exact absurd rfl c287
                            ·
                              refine lv_aload_n hx hb dL_ahead_290 rfl (lv_at hl 7 rfl) ?_
                              refine lv_bipush (v := 30) hx hb dL_ahead_291 (by decide) ?_
                              refine lv_iload hx hb dL_ahead_293 (lv_at hl 4 rfl) ?_
                              refine lqSi (As := [.ref (v 0), .int (30), .int (nI k)]) (rest := []) ⟨hx, hb, hml, hown, hts⟩ (c_ask_isGivenUp l hl9 D T aK aV v B Op282 g ln unp282 nxp282 pl f0 f1 f2 k N K C nt hOIp282 (by omega) _) (va_cwS 3 hts (gC gl_L_call__) rfl rfl rfl (by decide +kernel) ⟨Nat.le_of_ble_eq_true rfl, Nat.le_of_ble_eq_true rfl⟩) (Foc.rfl _ _) hC hNC hK hP hD hS hA rfl hl.1 rfl (Nat.le_of_ble_eq_true rfl) ⟨by show _ ≤ 25500; omega, by show _ ≤ 153000; omega⟩ dL_ahead_295 (fun H locs hP hD hS => ?_)
                              have hP : va_P D vwCl (WIN T v B Op282 g ln unp282 nxp282 pl f0 f1 f2) H := hP
                              have hD : va_D A (WIN T v B Op282 g ln unp282 nxp282 pl f0 f1 f2) := hD
                              refine endI (r := bI (decide (og 8 k = 3))) (by rw [hOp282]) ?_
                              refine endI (r := 1) (by rw [g8]; rfl) ?_
                              refine lv_iconst (v := 1) hx hb dL_ahead_298 (by decide) ?_
                              refine lv_icmp_ne (tgt := 351) hx hb dL_ahead_299 (by decide) (fun c299 => ?_) (fun c299 => ?_)
                              ·
                                exact absurd c299 (by decide)
                              ·
                                refine lv_aload_n hx hb dL_ahead_302 rfl (lv_at hl 7 rfl) ?_
                                refine lv_bipush (v := 31) hx hb dL_ahead_303 (by decide) ?_
                                refine lv_iload hx hb dL_ahead_305 (lv_at hl 4 rfl) ?_
                                refine lqSi (As := [.ref (v 0), .int (31), .int (nI k)]) (rest := []) ⟨hx, hb, hml, hown, hts⟩ (c_ask_closedIn l hl9 D T aK aV v B Op282 g ln unp282 nxp282 pl f0 f1 f2 k N K C nt hOIp282 (by omega) _) (va_cwS 3 hts (gC gl_L_call__) rfl rfl rfl (by decide +kernel) ⟨Nat.le_of_ble_eq_true rfl, Nat.le_of_ble_eq_true rfl⟩) (Foc.rfl _ _) hC hNC hK hP hD hS hA rfl hl.1 rfl (Nat.le_of_ble_eq_true rfl) ⟨by show _ ≤ 25500; omega, by show _ ≤ 153000; omega⟩ dL_ahead_307 (fun H locs hP hD hS => ?_)
                                have hP : va_P D vwCl (WIN T v B Op282 g ln unp282 nxp282 pl f0 f1 f2) H := hP
                                have hD : va_D A (WIN T v B Op282 g ln unp282 nxp282 pl f0 f1 f2) := hD
                                refine endI (r := if og 8 k = 0 then -101 else og 9 k) (by rw [hOp282]) ?_
                                refine endI (r := nI nt) (by rw [if_neg (by rw [g8]; decide)]; exact g9) ?_
                                refine lv_aload_n hx hb dL_ahead_310 rfl (lv_at hl 7 rfl) ?_
                                refine rdV (As := []) (rest := [.int (nI nt)]) ⟨hx, hb, hml, hown, hts⟩ (c_X9_night l D T v B Op282 g ln unp282 nxp282 pl f0 f1 f2 ) (cwV 0 hts (gC gl_X9_night) rfl rfl rfl (by decide +kernel) ⟨Nat.le_of_ble_eq_true rfl, Nat.le_of_ble_eq_true rfl⟩) hK hP 0 rfl rfl rfl hl.1 rfl (Nat.le_of_ble_eq_true rfl) ⟨by show _ ≤ 25500; omega, by show _ ≤ 153000; omega⟩ dL_ahead_311 ?_
                                refine endI (r := og 0 0) (by rw [hOp282]) ?_
                                refine endI (r := nI nt) (g00) ?_
                                refine lv_icmp_ne (tgt := 351) hx hb dL_ahead_314 (by decide) (fun c314 => ?_) (fun c314 => ?_)
                                ·
                                  exact absurd rfl c314
                                ·
                                  refine lv_aload_n hx hb dL_ahead_317 rfl (lv_at hl 7 rfl) ?_
                                  refine lv_bipush (v := 32) hx hb dL_ahead_318 (by decide) ?_
                                  refine lv_iload hx hb dL_ahead_320 (lv_at hl 4 rfl) ?_
                                  refine lqSi (As := [.ref (v 0), .int (32), .int (nI k)]) (rest := []) ⟨hx, hb, hml, hown, hts⟩ (c_ask_clerkOf l hl9 D T aK aV v B Op282 g ln unp282 nxp282 pl f0 f1 f2 k N K C nt hOIp282 (by omega) _) (va_cwS 3 hts (gC gl_L_call__) rfl rfl rfl (by decide +kernel) ⟨Nat.le_of_ble_eq_true rfl, Nat.le_of_ble_eq_true rfl⟩) (Foc.rfl _ _) hC hNC hK hP hD hS hA rfl hl.1 rfl (Nat.le_of_ble_eq_true rfl) ⟨by show _ ≤ 25500; omega, by show _ ≤ 153000; omega⟩ dL_ahead_322 (fun H locs hP hD hS => ?_)
                                  have hP : va_P D vwCl (WIN T v B Op282 g ln unp282 nxp282 pl f0 f1 f2) H := hP
                                  have hD : va_D A (WIN T v B Op282 g ln unp282 nxp282 pl f0 f1 f2) := hD
                                  refine endI (r := if og 10 k = -1 then -101 else og 10 k) (by rw [hOp282]) ?_
                                  refine endI (r := -101) (if_pos g10) ?_
                                  refine lv_bipush (v := -101) hx hb dL_ahead_325 (by decide) ?_
                                  refine lv_icmp_ne (tgt := 351) hx hb dL_ahead_327 (by decide) (fun c327 => ?_) (fun c327 => ?_)
                                  ·
                                    exact absurd c327 (by decide)
                                  ·
                                    refine lv_aload_n hx hb dL_ahead_330 rfl (lv_at hl 7 rfl) ?_
                                    refine lqSi (As := [.ref (v 0)]) (rest := []) ⟨hx, hb, hml, hown, hts⟩ (c_L_books l hl9 D T aK aV v B Op282 g ln unp282 nxp282 pl f0 f1 f2 N K C nt hOIp282 hOVp282 (by omega) _) (va_cwS 1 hts (gC gl_L_books) rfl rfl rfl (by decide +kernel) ⟨Nat.le_of_ble_eq_true rfl, Nat.le_of_ble_eq_true rfl⟩) (Foc.rfl _ _) hC hNC hK hP hD hS hA rfl hl.1 rfl (Nat.le_of_ble_eq_true rfl) ⟨by show _ ≤ 25500; omega, by show _ ≤ 153000; omega⟩ dL_ahead_331 (fun H locs hP hD hS => ?_)
                                    have hP : va_P D vwCl (WIN T v B Op282 g ln unp282 nxp282 pl f0 f1 f2) H := hP
                                    have hD : va_D A (WIN T v B Op282 g ln unp282 nxp282 pl f0 f1 f2) := hD
                                    refine lv_if_eq (tgt := 351) hx hb dL_ahead_334 (by decide) (fun c334 => ?_) (fun c334 => ?_)
                                    ·
                                      exact absurd c334 (by decide)
                                    ·
                                      refine lv_aload_n hx hb dL_ahead_337 rfl (lv_at hl 7 rfl) ?_
                                      refine lv_bipush (v := 9) hx hb dL_ahead_338 (by decide) ?_
                                      refine lv_iconst (v := 0) hx hb dL_ahead_340 (by decide) ?_
                                      refine lcSi (S := S3) (ws1 := fun u => (WIN T v B u.1 g ln u.2.1 u.2.2 pl f0 f1 f2 : va_W)) (wc1 := fun u => WIN T v B u.1 g ln u.2.1 u.2.2 pl f0 f1 f2) (As := [.ref (v 0), .int (9), .int (0)]) (rest := []) ⟨hx, hb, hml, hown, hts⟩ (c_ex_undo l hl9 D T aK aV v B Op282 g ln unp282 nxp282 pl f0 f1 f2 N K C nt hGp282 hup282 _) (va_cwS 3 hts (gC gl_L_call__) rfl rfl rfl (by decide +kernel) ⟨Nat.le_of_ble_eq_true rfl, Nat.le_of_ble_eq_true rfl⟩) (fun u => Foc.rfl _ _) (Foc.rfl _ _) hC hNC hK hP hD hS hA rfl hl.1 rfl (Nat.le_of_ble_eq_true rfl) ⟨by show _ ≤ 25500; omega, by show _ ≤ 153000; omega⟩ dL_ahead_341 (fun r9 u H locs hr hP hD hS => ?_)
                                      obtain ⟨Op341, unp341, nxp341⟩ := u
                                      obtain ⟨hr, hOp341, hGp341⟩ := hr
                                      replace hOp341 : Op341 0 = O 0 := hOp341.trans htopp282
                                      replace hGp341 : GW Op341 unp341 nxp341 f2 := hGp341
                                      have hOVp341 : OV (Op341 0) N K C nt := by rw [hOp341]; exact hOV
                                      have hOIp341 := hOVp341.oi
                                      replace hr : r9 = nI (unp282 - 1) := hr
                                      subst hr
                                      have hP : va_P D vwCl (WIN T v B Op341 g ln unp341 nxp341 pl f0 f1 f2) H := hP
                                      have hD : va_D A (WIN T v B Op341 g ln unp341 nxp341 pl f0 f1 f2) := hD
                                      refine lv_if_lt (tgt := 351) hx hb dL_ahead_344 (by decide) (fun c344 => ?_) (fun c344 => ?_)
                                      ·
                                        have c344 : (unp282 - 1) < 0 := (nI_ltI (a := (unp282 - 1)) (b := 0) (by omega) (by omega)).mp c344
                                        exfalso; omega
                                      ·
                                        have c344 : ¬ (unp282 - 1) < 0 := fun h9 => c344 ((nI_ltI (a := (unp282 - 1)) (b := 0) (by omega) (by omega)).mpr h9)
                                        refine lv_iconst (v := 1) hx hb dL_ahead_347 (by decide) ?_
                                        refine lv_goto (tgt := 352) hx hb dL_ahead_348 (by decide) ?_
                                        refine lv_istore (lv' := [(4, .int (1)), (9, .int (nI (nt - ff))), (8, .int (1)), (7, .int (nI nn)), (6, .int (nI k)), (5, .int (nI N)), (2, .long (stC (O 0) N K C)), (0, .ref (v 0)), (1, .int (nI w))]) hx hb dL_ahead_352 hl (by decide) rfl (fun ls hl => ?_)
                                        refine lv_iinc (v := nI (k + 3)) (lv' := [(6, .int (nI (k + 3))), (4, .int (1)), (9, .int (nI (nt - ff))), (8, .int (1)), (7, .int (nI nn)), (5, .int (nI N)), (2, .long (stC (O 0) N K C)), (0, .ref (v 0)), (1, .int (nI w))]) hx hb dL_ahead_354 hl (k := 4) rfl (nI_add _ _) (by decide) rfl (fun ls hl => ?_)
                                        refine lv_goto (tgt := 23) hx hb dL_ahead_357 (by decide) ?_
                                        exact ih23 (k + 3) Op341 unp341 nxp341 _ _ (by omega) (by omega) (by exact hOp341) (by exact hGp341) (by omega) (by omega) _ _ _ hP hD hS (lv_sub hl [0, 5, 1, 6, 7, 8] rfl)
                        ·
                          have c160 : ¬ 999 < (nt + nn) := fun h9 => c160 ((nI_ltI (a := 999) (b := (nt + nn)) (by omega) (by omega)).mpr h9)
                          refine lv_iload hx hb dL_ahead_163 (lv_at hl 3 rfl) ?_
                          refine lv_iconst (v := 1) hx hb dL_ahead_165 (by decide) ?_
                          refine lv_icmp_le (tgt := 216) hx hb dL_ahead_166 (by decide) (fun c166 => ?_) (fun c166 => ?_)
                          ·
                            have c166 : nn ≤ 1 := (nI_leI (a := nn) (b := 1) (by omega) (by omega)).mp c166
                            refine lv_iload hx hb dL_ahead_216 (lv_at hl 0 rfl) ?_
                            refine lv_if_eq (tgt := 270) hx hb dL_ahead_218 (by decide) (fun c218 => ?_) (fun c218 => ?_)
                            ·
                              exact absurd c218 (by decide)
                            ·
                              refine lv_aload_n hx hb dL_ahead_221 rfl (lv_at hl 7 rfl) ?_
                              refine lv_bipush (v := 8) hx hb dL_ahead_222 (by decide) ?_
                              refine lv_iload hx hb dL_ahead_224 (lv_at hl 3 rfl) ?_
                              refine lcSi (S := S3) (ws1 := fun u => (WIN T v B u.1 g ln u.2.1 u.2.2 pl f0 f1 f2 : va_W)) (wc1 := fun u => WIN T v B u.1 g ln u.2.1 u.2.2 pl f0 f1 f2) (As := [.ref (v 0), .int (8), .int (nI nn)]) (rest := []) ⟨hx, hb, hml, hown, hts⟩ (c_ex_ends l hl9 D T aK aV v B Op50 g ln unp50 nxp50 pl f0 f1 f2 nn N K C nt hOVp50 hGp50 (by omega) (by omega) (by omega) _) (va_cwS 3 hts (gC gl_L_call__) rfl rfl rfl (by decide +kernel) ⟨Nat.le_of_ble_eq_true rfl, Nat.le_of_ble_eq_true rfl⟩) (fun u => Foc.rfl _ _) (Foc.rfl _ _) hC hNC hK hP hD hS hA rfl hl.1 rfl (Nat.le_of_ble_eq_true rfl) ⟨by show _ ≤ 25500; omega, by show _ ≤ 153000; omega⟩ dL_ahead_226 (fun r9 u H locs hr hP hD hS => ?_)
                              obtain ⟨Op226, unp226, nxp226⟩ := u
                              obtain ⟨ol, hol⟩ : ∃ o9, o9 = pN N K C (nn) nt (O 0) := ⟨_, rfl⟩
                              obtain ⟨hr, hOp226, hGp226, hup226, htopp226⟩ := hr
                              replace hOp226 : Op226 0 = ol := by rw [hol, ← hOp50]; exact hOp226
                              replace hGp226 : GW Op226 unp226 nxp226 f2 := hGp226
                              replace hup226 : 0 < unp226 := hup226
                              replace htopp226 : Op226 (3 + (nxp226 + 7) % 8) = O 0 := by rw [← hOp50]; exact htopp226
                              have hOVp226 : OV (Op226 0) (N) K C (nt + (nn)) := by rw [hOp226]; exact by rw [hol]; exact hOV.pN (nn) (by omega)
                              have hOIp226 := hOVp226.oi
                              have hunp226 := hGp226.un8
                              obtain ⟨an, han, hr9⟩ := ends_nn (N := N) (K := K) (C := C) (nt := nt) (o := O 0) hOV nn (by omega) (by omega)
                              replace hr : r9 = nI an := by rw [← hr9, ← hOp50]; exact hr
                              subst hr
                              have hP : va_P D vwCl (WIN T v B Op226 g ln unp226 nxp226 pl f0 f1 f2) H := hP
                              have hD : va_D A (WIN T v B Op226 g ln unp226 nxp226 pl f0 f1 f2) := hD
                              refine lv_if_lt (tgt := 270) hx hb dL_ahead_229 (by decide) (fun c229 => ?_) (fun c229 => ?_)
                              ·
                                have c229 : an < 0 := (nI_ltI (a := an) (b := 0) (by omega) (by omega)).mp c229
                                exfalso; omega
                              ·
                                have c229 : ¬ an < 0 := fun h9 => c229 ((nI_ltI (a := an) (b := 0) (by omega) (by omega)).mpr h9)
                                refine lv_aload_n hx hb dL_ahead_232 rfl (lv_at hl 7 rfl) ?_
                                refine lv_bipush (v := 27) hx hb dL_ahead_233 (by decide) ?_
                                refine lv_iload hx hb dL_ahead_235 (lv_at hl 4 rfl) ?_
                                refine lqSi (As := [.ref (v 0), .int (27), .int (nI k)]) (rest := []) ⟨hx, hb, hml, hown, hts⟩ (c_ask_isWaiting l hl9 D T aK aV v B Op226 g ln unp226 nxp226 pl f0 f1 f2 k N K C (nt + (nn)) hOIp226 (by omega) _) (va_cwS 3 hts (gC gl_L_call__) rfl rfl rfl (by decide +kernel) ⟨Nat.le_of_ble_eq_true rfl, Nat.le_of_ble_eq_true rfl⟩) (Foc.rfl _ _) hC hNC hK hP hD hS hA rfl hl.1 rfl (Nat.le_of_ble_eq_true rfl) ⟨by show _ ≤ 25500; omega, by show _ ≤ 153000; omega⟩ dL_ahead_237 (fun H locs hP hD hS => ?_)
                                have hP : va_P D vwCl (WIN T v B Op226 g ln unp226 nxp226 pl f0 f1 f2) H := hP
                                have hD : va_D A (WIN T v B Op226 g ln unp226 nxp226 pl f0 f1 f2) := hD
                                refine endI (r := bI (decide (ol 8 k = 0))) (by rw [hOp226]) ?_
                                refine endI (r := 0) (by rw [hol, decide_eq_false u2]; rfl) ?_
                                refine lv_if_ne (tgt := 270) hx hb dL_ahead_240 (by decide) (fun c240 => ?_) (fun c240 => ?_)
                                ·
                                  exact absurd c240 (by decide)
                                ·
                                  refine lv_aload_n hx hb dL_ahead_243 rfl (lv_at hl 7 rfl) ?_
                                  refine lv_bipush (v := 28) hx hb dL_ahead_244 (by decide) ?_
                                  refine lv_iload hx hb dL_ahead_246 (lv_at hl 4 rfl) ?_
                                  refine lqSi (As := [.ref (v 0), .int (28), .int (nI k)]) (rest := []) ⟨hx, hb, hml, hown, hts⟩ (c_ask_isAnswered l hl9 D T aK aV v B Op226 g ln unp226 nxp226 pl f0 f1 f2 k N K C (nt + (nn)) hOIp226 (by omega) _) (va_cwS 3 hts (gC gl_L_call__) rfl rfl rfl (by decide +kernel) ⟨Nat.le_of_ble_eq_true rfl, Nat.le_of_ble_eq_true rfl⟩) (Foc.rfl _ _) hC hNC hK hP hD hS hA rfl hl.1 rfl (Nat.le_of_ble_eq_true rfl) ⟨by show _ ≤ 25500; omega, by show _ ≤ 153000; omega⟩ dL_ahead_248 (fun H locs hP hD hS => ?_)
                                  have hP : va_P D vwCl (WIN T v B Op226 g ln unp226 nxp226 pl f0 f1 f2) H := hP
                                  have hD : va_D A (WIN T v B Op226 g ln unp226 nxp226 pl f0 f1 f2) := hD
                                  refine endI (r := bI (decide (ol 8 k = 1))) (by rw [hOp226]) ?_
                                  refine endI (r := 1) (by rw [hol, hwA]; rfl) ?_
                                  refine lv_iload hx hb dL_ahead_251 (lv_at hl 2 rfl) ?_
                                  refine lv_icmp_ne (tgt := 270) hx hb dL_ahead_253 (by decide) (fun c253 => ?_) (fun c253 => ?_)
                                  ·
                                    exact absurd c253 (by decide)
                                  ·
                                    refine lv_aload_n hx hb dL_ahead_256 rfl (lv_at hl 7 rfl) ?_
                                    refine lv_bipush (v := 9) hx hb dL_ahead_257 (by decide) ?_
                                    refine lv_iconst (v := 0) hx hb dL_ahead_259 (by decide) ?_
                                    refine lcSi (S := S3) (ws1 := fun u => (WIN T v B u.1 g ln u.2.1 u.2.2 pl f0 f1 f2 : va_W)) (wc1 := fun u => WIN T v B u.1 g ln u.2.1 u.2.2 pl f0 f1 f2) (As := [.ref (v 0), .int (9), .int (0)]) (rest := []) ⟨hx, hb, hml, hown, hts⟩ (c_ex_undo l hl9 D T aK aV v B Op226 g ln unp226 nxp226 pl f0 f1 f2 N K C (nt + (nn)) hGp226 hup226 _) (va_cwS 3 hts (gC gl_L_call__) rfl rfl rfl (by decide +kernel) ⟨Nat.le_of_ble_eq_true rfl, Nat.le_of_ble_eq_true rfl⟩) (fun u => Foc.rfl _ _) (Foc.rfl _ _) hC hNC hK hP hD hS hA rfl hl.1 rfl (Nat.le_of_ble_eq_true rfl) ⟨by show _ ≤ 25500; omega, by show _ ≤ 153000; omega⟩ dL_ahead_260 (fun r9 u H locs hr hP hD hS => ?_)
                                    obtain ⟨Op260, unp260, nxp260⟩ := u
                                    obtain ⟨hr, hOp260, hGp260⟩ := hr
                                    replace hOp260 : Op260 0 = O 0 := hOp260.trans htopp226
                                    replace hGp260 : GW Op260 unp260 nxp260 f2 := hGp260
                                    have hOVp260 : OV (Op260 0) N K C nt := by rw [hOp260]; exact hOV
                                    have hOIp260 := hOVp260.oi
                                    replace hr : r9 = nI (unp226 - 1) := hr
                                    subst hr
                                    have hP : va_P D vwCl (WIN T v B Op260 g ln unp260 nxp260 pl f0 f1 f2) H := hP
                                    have hD : va_D A (WIN T v B Op260 g ln unp260 nxp260 pl f0 f1 f2) := hD
                                    refine lv_if_lt (tgt := 270) hx hb dL_ahead_263 (by decide) (fun c263 => ?_) (fun c263 => ?_)
                                    ·
                                      have c263 : (unp226 - 1) < 0 := (nI_ltI (a := (unp226 - 1)) (b := 0) (by omega) (by omega)).mp c263
                                      exfalso; omega
                                    ·
                                      have c263 : ¬ (unp226 - 1) < 0 := fun h9 => c263 ((nI_ltI (a := (unp226 - 1)) (b := 0) (by omega) (by omega)).mpr h9)
                                      refine lv_iconst (v := 1) hx hb dL_ahead_266 (by decide) ?_
                                      refine lv_goto (tgt := 271) hx hb dL_ahead_267 (by decide) ?_
                                      refine lv_istore (lv' := [(4, .int (1)), (9, .int (nI (nt - ff))), (8, .int (1)), (7, .int (nI nn)), (6, .int (nI k)), (5, .int (nI N)), (2, .long (stC (O 0) N K C)), (0, .ref (v 0)), (1, .int (nI w))]) hx hb dL_ahead_271 hl (by decide) rfl (fun ls hl => ?_)
                                      refine lv_iload hx hb dL_ahead_273 (lv_at hl 0 rfl) ?_
                                      refine lv_if_eq (tgt := 351) hx hb dL_ahead_275 (by decide) (fun c275 => ?_) (fun c275 => ?_)
                                      ·
                                        exact absurd c275 (by decide)
                                      ·
                                        refine lv_aload_n hx hb dL_ahead_278 rfl (lv_at hl 7 rfl) ?_
                                        refine lv_iconst (v := 1) hx hb dL_ahead_279 (by decide) ?_
                                        refine lv_iload hx hb dL_ahead_280 (lv_at hl 4 rfl) ?_
                                        refine lcSi (S := S3) (ws1 := fun u => (WIN T v B u.1 g ln u.2.1 u.2.2 pl f0 f1 f2 : va_W)) (wc1 := fun u => WIN T v B u.1 g ln u.2.1 u.2.2 pl f0 f1 f2) (As := [.ref (v 0), .int (1), .int (nI k)]) (rest := []) ⟨hx, hb, hml, hown, hts⟩ (c_ex_give l hl9 D T aK aV v B Op260 g ln unp260 nxp260 pl f0 f1 f2 k N K C nt hOVp260 hGp260 (by omega) (by rw [hOp260]; exact h8) (by omega) _) (va_cwS 3 hts (gC gl_L_call__) rfl rfl rfl (by decide +kernel) ⟨Nat.le_of_ble_eq_true rfl, Nat.le_of_ble_eq_true rfl⟩) (fun u => Foc.rfl _ _) (Foc.rfl _ _) hC hNC hK hP hD hS hA rfl hl.1 rfl (Nat.le_of_ble_eq_true rfl) ⟨by show _ ≤ 25500; omega, by show _ ≤ 153000; omega⟩ dL_ahead_282 (fun r9 u H locs hr hP hD hS => ?_)
                                        obtain ⟨Op282, unp282, nxp282⟩ := u
                                        obtain ⟨og, hog⟩ : ∃ o9, o9 = pileClose (O 0) k 3 ((O 0) 0 0) (-1) := ⟨_, rfl⟩
                                        have g8 : og 8 k = 3 := by rw [hog]; exact if_pos rfl
                                        have g9 : og 9 k = nI nt := by rw [hog]; exact (if_pos rfl).trans hn
                                        have g10 : og 10 k = -1 := by rw [hog]; exact if_pos rfl
                                        have g00 : og 0 0 = nI nt := by rw [hog]; exact hn
                                        obtain ⟨hr, hOp282, hGp282, hup282, htopp282⟩ := hr
                                        replace hOp282 : Op282 0 = og := by rw [hog, ← hOp260]; exact hOp282
                                        replace hGp282 : GW Op282 unp282 nxp282 f2 := hGp282
                                        replace hup282 : 0 < unp282 := hup282
                                        replace htopp282 : Op282 (3 + (nxp282 + 7) % 8) = O 0 := by rw [← hOp260]; exact htopp282
                                        have hOVp282 : OV (Op282 0) (N) K C (nt) := by rw [hOp282]; exact by rw [hog]; exact hOV.give (by omega) h8
                                        have hOIp282 := hOVp282.oi
                                        have hunp282 := hGp282.un8
                                        replace hr : r9 = nI (nt - ff) := by rw [hr, hOp260, hn, e7]; exact pk_sub (by omega)
                                        subst hr
                                        have hP : va_P D vwCl (WIN T v B Op282 g ln unp282 nxp282 pl f0 f1 f2) H := hP
                                        have hD : va_D A (WIN T v B Op282 g ln unp282 nxp282 pl f0 f1 f2) := hD
                                        refine lv_iload hx hb dL_ahead_285 (lv_at hl 1 rfl) ?_
                                        refine lv_icmp_ne (tgt := 351) hx hb dL_ahead_287 (by decide) (fun c287 => ?_) (fun c287 => ?_)
                                        ·
                                          exact absurd rfl c287
                                        ·
                                          refine lv_aload_n hx hb dL_ahead_290 rfl (lv_at hl 7 rfl) ?_
                                          refine lv_bipush (v := 30) hx hb dL_ahead_291 (by decide) ?_
                                          refine lv_iload hx hb dL_ahead_293 (lv_at hl 4 rfl) ?_
                                          refine lqSi (As := [.ref (v 0), .int (30), .int (nI k)]) (rest := []) ⟨hx, hb, hml, hown, hts⟩ (c_ask_isGivenUp l hl9 D T aK aV v B Op282 g ln unp282 nxp282 pl f0 f1 f2 k N K C nt hOIp282 (by omega) _) (va_cwS 3 hts (gC gl_L_call__) rfl rfl rfl (by decide +kernel) ⟨Nat.le_of_ble_eq_true rfl, Nat.le_of_ble_eq_true rfl⟩) (Foc.rfl _ _) hC hNC hK hP hD hS hA rfl hl.1 rfl (Nat.le_of_ble_eq_true rfl) ⟨by show _ ≤ 25500; omega, by show _ ≤ 153000; omega⟩ dL_ahead_295 (fun H locs hP hD hS => ?_)
                                          have hP : va_P D vwCl (WIN T v B Op282 g ln unp282 nxp282 pl f0 f1 f2) H := hP
                                          have hD : va_D A (WIN T v B Op282 g ln unp282 nxp282 pl f0 f1 f2) := hD
                                          refine endI (r := bI (decide (og 8 k = 3))) (by rw [hOp282]) ?_
                                          refine endI (r := 1) (by rw [g8]; rfl) ?_
                                          refine lv_iconst (v := 1) hx hb dL_ahead_298 (by decide) ?_
                                          refine lv_icmp_ne (tgt := 351) hx hb dL_ahead_299 (by decide) (fun c299 => ?_) (fun c299 => ?_)
                                          ·
                                            exact absurd c299 (by decide)
                                          ·
                                            refine lv_aload_n hx hb dL_ahead_302 rfl (lv_at hl 7 rfl) ?_
                                            refine lv_bipush (v := 31) hx hb dL_ahead_303 (by decide) ?_
                                            refine lv_iload hx hb dL_ahead_305 (lv_at hl 4 rfl) ?_
                                            refine lqSi (As := [.ref (v 0), .int (31), .int (nI k)]) (rest := []) ⟨hx, hb, hml, hown, hts⟩ (c_ask_closedIn l hl9 D T aK aV v B Op282 g ln unp282 nxp282 pl f0 f1 f2 k N K C nt hOIp282 (by omega) _) (va_cwS 3 hts (gC gl_L_call__) rfl rfl rfl (by decide +kernel) ⟨Nat.le_of_ble_eq_true rfl, Nat.le_of_ble_eq_true rfl⟩) (Foc.rfl _ _) hC hNC hK hP hD hS hA rfl hl.1 rfl (Nat.le_of_ble_eq_true rfl) ⟨by show _ ≤ 25500; omega, by show _ ≤ 153000; omega⟩ dL_ahead_307 (fun H locs hP hD hS => ?_)
                                            have hP : va_P D vwCl (WIN T v B Op282 g ln unp282 nxp282 pl f0 f1 f2) H := hP
                                            have hD : va_D A (WIN T v B Op282 g ln unp282 nxp282 pl f0 f1 f2) := hD
                                            refine endI (r := if og 8 k = 0 then -101 else og 9 k) (by rw [hOp282]) ?_
                                            refine endI (r := nI nt) (by rw [if_neg (by rw [g8]; decide)]; exact g9) ?_
                                            refine lv_aload_n hx hb dL_ahead_310 rfl (lv_at hl 7 rfl) ?_
                                            refine rdV (As := []) (rest := [.int (nI nt)]) ⟨hx, hb, hml, hown, hts⟩ (c_X9_night l D T v B Op282 g ln unp282 nxp282 pl f0 f1 f2 ) (cwV 0 hts (gC gl_X9_night) rfl rfl rfl (by decide +kernel) ⟨Nat.le_of_ble_eq_true rfl, Nat.le_of_ble_eq_true rfl⟩) hK hP 0 rfl rfl rfl hl.1 rfl (Nat.le_of_ble_eq_true rfl) ⟨by show _ ≤ 25500; omega, by show _ ≤ 153000; omega⟩ dL_ahead_311 ?_
                                            refine endI (r := og 0 0) (by rw [hOp282]) ?_
                                            refine endI (r := nI nt) (g00) ?_
                                            refine lv_icmp_ne (tgt := 351) hx hb dL_ahead_314 (by decide) (fun c314 => ?_) (fun c314 => ?_)
                                            ·
                                              exact absurd rfl c314
                                            ·
                                              refine lv_aload_n hx hb dL_ahead_317 rfl (lv_at hl 7 rfl) ?_
                                              refine lv_bipush (v := 32) hx hb dL_ahead_318 (by decide) ?_
                                              refine lv_iload hx hb dL_ahead_320 (lv_at hl 4 rfl) ?_
                                              refine lqSi (As := [.ref (v 0), .int (32), .int (nI k)]) (rest := []) ⟨hx, hb, hml, hown, hts⟩ (c_ask_clerkOf l hl9 D T aK aV v B Op282 g ln unp282 nxp282 pl f0 f1 f2 k N K C nt hOIp282 (by omega) _) (va_cwS 3 hts (gC gl_L_call__) rfl rfl rfl (by decide +kernel) ⟨Nat.le_of_ble_eq_true rfl, Nat.le_of_ble_eq_true rfl⟩) (Foc.rfl _ _) hC hNC hK hP hD hS hA rfl hl.1 rfl (Nat.le_of_ble_eq_true rfl) ⟨by show _ ≤ 25500; omega, by show _ ≤ 153000; omega⟩ dL_ahead_322 (fun H locs hP hD hS => ?_)
                                              have hP : va_P D vwCl (WIN T v B Op282 g ln unp282 nxp282 pl f0 f1 f2) H := hP
                                              have hD : va_D A (WIN T v B Op282 g ln unp282 nxp282 pl f0 f1 f2) := hD
                                              refine endI (r := if og 10 k = -1 then -101 else og 10 k) (by rw [hOp282]) ?_
                                              refine endI (r := -101) (if_pos g10) ?_
                                              refine lv_bipush (v := -101) hx hb dL_ahead_325 (by decide) ?_
                                              refine lv_icmp_ne (tgt := 351) hx hb dL_ahead_327 (by decide) (fun c327 => ?_) (fun c327 => ?_)
                                              ·
                                                exact absurd c327 (by decide)
                                              ·
                                                refine lv_aload_n hx hb dL_ahead_330 rfl (lv_at hl 7 rfl) ?_
                                                refine lqSi (As := [.ref (v 0)]) (rest := []) ⟨hx, hb, hml, hown, hts⟩ (c_L_books l hl9 D T aK aV v B Op282 g ln unp282 nxp282 pl f0 f1 f2 N K C nt hOIp282 hOVp282 (by omega) _) (va_cwS 1 hts (gC gl_L_books) rfl rfl rfl (by decide +kernel) ⟨Nat.le_of_ble_eq_true rfl, Nat.le_of_ble_eq_true rfl⟩) (Foc.rfl _ _) hC hNC hK hP hD hS hA rfl hl.1 rfl (Nat.le_of_ble_eq_true rfl) ⟨by show _ ≤ 25500; omega, by show _ ≤ 153000; omega⟩ dL_ahead_331 (fun H locs hP hD hS => ?_)
                                                have hP : va_P D vwCl (WIN T v B Op282 g ln unp282 nxp282 pl f0 f1 f2) H := hP
                                                have hD : va_D A (WIN T v B Op282 g ln unp282 nxp282 pl f0 f1 f2) := hD
                                                refine lv_if_eq (tgt := 351) hx hb dL_ahead_334 (by decide) (fun c334 => ?_) (fun c334 => ?_)
                                                ·
                                                  exact absurd c334 (by decide)
                                                ·
                                                  refine lv_aload_n hx hb dL_ahead_337 rfl (lv_at hl 7 rfl) ?_
                                                  refine lv_bipush (v := 9) hx hb dL_ahead_338 (by decide) ?_
                                                  refine lv_iconst (v := 0) hx hb dL_ahead_340 (by decide) ?_
                                                  refine lcSi (S := S3) (ws1 := fun u => (WIN T v B u.1 g ln u.2.1 u.2.2 pl f0 f1 f2 : va_W)) (wc1 := fun u => WIN T v B u.1 g ln u.2.1 u.2.2 pl f0 f1 f2) (As := [.ref (v 0), .int (9), .int (0)]) (rest := []) ⟨hx, hb, hml, hown, hts⟩ (c_ex_undo l hl9 D T aK aV v B Op282 g ln unp282 nxp282 pl f0 f1 f2 N K C nt hGp282 hup282 _) (va_cwS 3 hts (gC gl_L_call__) rfl rfl rfl (by decide +kernel) ⟨Nat.le_of_ble_eq_true rfl, Nat.le_of_ble_eq_true rfl⟩) (fun u => Foc.rfl _ _) (Foc.rfl _ _) hC hNC hK hP hD hS hA rfl hl.1 rfl (Nat.le_of_ble_eq_true rfl) ⟨by show _ ≤ 25500; omega, by show _ ≤ 153000; omega⟩ dL_ahead_341 (fun r9 u H locs hr hP hD hS => ?_)
                                                  obtain ⟨Op341, unp341, nxp341⟩ := u
                                                  obtain ⟨hr, hOp341, hGp341⟩ := hr
                                                  replace hOp341 : Op341 0 = O 0 := hOp341.trans htopp282
                                                  replace hGp341 : GW Op341 unp341 nxp341 f2 := hGp341
                                                  have hOVp341 : OV (Op341 0) N K C nt := by rw [hOp341]; exact hOV
                                                  have hOIp341 := hOVp341.oi
                                                  replace hr : r9 = nI (unp282 - 1) := hr
                                                  subst hr
                                                  have hP : va_P D vwCl (WIN T v B Op341 g ln unp341 nxp341 pl f0 f1 f2) H := hP
                                                  have hD : va_D A (WIN T v B Op341 g ln unp341 nxp341 pl f0 f1 f2) := hD
                                                  refine lv_if_lt (tgt := 351) hx hb dL_ahead_344 (by decide) (fun c344 => ?_) (fun c344 => ?_)
                                                  ·
                                                    have c344 : (unp282 - 1) < 0 := (nI_ltI (a := (unp282 - 1)) (b := 0) (by omega) (by omega)).mp c344
                                                    exfalso; omega
                                                  ·
                                                    have c344 : ¬ (unp282 - 1) < 0 := fun h9 => c344 ((nI_ltI (a := (unp282 - 1)) (b := 0) (by omega) (by omega)).mpr h9)
                                                    refine lv_iconst (v := 1) hx hb dL_ahead_347 (by decide) ?_
                                                    refine lv_goto (tgt := 352) hx hb dL_ahead_348 (by decide) ?_
                                                    refine lv_istore (lv' := [(4, .int (1)), (9, .int (nI (nt - ff))), (8, .int (1)), (7, .int (nI nn)), (6, .int (nI k)), (5, .int (nI N)), (2, .long (stC (O 0) N K C)), (0, .ref (v 0)), (1, .int (nI w))]) hx hb dL_ahead_352 hl (by decide) rfl (fun ls hl => ?_)
                                                    refine lv_iinc (v := nI (k + 3)) (lv' := [(6, .int (nI (k + 3))), (4, .int (1)), (9, .int (nI (nt - ff))), (8, .int (1)), (7, .int (nI nn)), (5, .int (nI N)), (2, .long (stC (O 0) N K C)), (0, .ref (v 0)), (1, .int (nI w))]) hx hb dL_ahead_354 hl (k := 4) rfl (nI_add _ _) (by decide) rfl (fun ls hl => ?_)
                                                    refine lv_goto (tgt := 23) hx hb dL_ahead_357 (by decide) ?_
                                                    exact ih23 (k + 3) Op341 unp341 nxp341 _ _ (by omega) (by omega) (by exact hOp341) (by exact hGp341) (by omega) (by omega) _ _ _ hP hD hS (lv_sub hl [0, 5, 1, 6, 7, 8] rfl)
                          ·
                            have c166 : ¬ nn ≤ 1 := fun h9 => c166 ((nI_leI (a := nn) (b := 1) (by omega) (by omega)).mpr h9)
                            refine lv_iload hx hb dL_ahead_169 (lv_at hl 0 rfl) ?_
                            refine lv_if_eq (tgt := 213) hx hb dL_ahead_171 (by decide) (fun c171 => ?_) (fun c171 => ?_)
                            ·
                              exact absurd c171 (by decide)
                            ·
                              refine lv_aload_n hx hb dL_ahead_174 rfl (lv_at hl 7 rfl) ?_
                              refine lv_bipush (v := 8) hx hb dL_ahead_175 (by decide) ?_
                              refine lv_iload hx hb dL_ahead_177 (lv_at hl 3 rfl) ?_
                              refine lv_iconst (v := 1) hx hb dL_ahead_179 (by decide) ?_
                              refine lv_isub hx hb dL_ahead_180 ?_
                              refine endI (r := nI (nn - 1)) (pk_sub (a := nn) (b := 1) (by omega)) ?_
                              refine lcSi (S := S3) (ws1 := fun u => (WIN T v B u.1 g ln u.2.1 u.2.2 pl f0 f1 f2 : va_W)) (wc1 := fun u => WIN T v B u.1 g ln u.2.1 u.2.2 pl f0 f1 f2) (As := [.ref (v 0), .int (8), .int (nI (nn - 1))]) (rest := []) ⟨hx, hb, hml, hown, hts⟩ (c_ex_ends l hl9 D T aK aV v B Op50 g ln unp50 nxp50 pl f0 f1 f2 (nn - 1) N K C nt hOVp50 hGp50 (by omega) (by omega) (by omega) _) (va_cwS 3 hts (gC gl_L_call__) rfl rfl rfl (by decide +kernel) ⟨Nat.le_of_ble_eq_true rfl, Nat.le_of_ble_eq_true rfl⟩) (fun u => Foc.rfl _ _) (Foc.rfl _ _) hC hNC hK hP hD hS hA rfl hl.1 rfl (Nat.le_of_ble_eq_true rfl) ⟨by show _ ≤ 25500; omega, by show _ ≤ 153000; omega⟩ dL_ahead_181 (fun r9 u H locs hr hP hD hS => ?_)
                              obtain ⟨Op181, unp181, nxp181⟩ := u
                              obtain ⟨oe, hoe⟩ : ∃ o9, o9 = pN N K C (nn - 1) nt (O 0) := ⟨_, rfl⟩
                              obtain ⟨hr, hOp181, hGp181, hup181, htopp181⟩ := hr
                              replace hOp181 : Op181 0 = oe := by rw [hoe, ← hOp50]; exact hOp181
                              replace hGp181 : GW Op181 unp181 nxp181 f2 := hGp181
                              replace hup181 : 0 < unp181 := hup181
                              replace htopp181 : Op181 (3 + (nxp181 + 7) % 8) = O 0 := by rw [← hOp50]; exact htopp181
                              have hOVp181 : OV (Op181 0) (N) K C (nt + (nn - 1)) := by rw [hOp181]; exact by rw [hoe]; exact hOV.pN (nn - 1) (by omega)
                              have hOIp181 := hOVp181.oi
                              have hunp181 := hGp181.un8
                              obtain ⟨an, han, hr9⟩ := ends_nn (N := N) (K := K) (C := C) (nt := nt) (o := O 0) hOV (nn - 1) (by omega) (by omega)
                              replace hr : r9 = nI an := by rw [← hr9, ← hOp50]; exact hr
                              subst hr
                              have hP : va_P D vwCl (WIN T v B Op181 g ln unp181 nxp181 pl f0 f1 f2) H := hP
                              have hD : va_D A (WIN T v B Op181 g ln unp181 nxp181 pl f0 f1 f2) := hD
                              refine lv_if_lt (tgt := 213) hx hb dL_ahead_184 (by decide) (fun c184 => ?_) (fun c184 => ?_)
                              ·
                                have c184 : an < 0 := (nI_ltI (a := an) (b := 0) (by omega) (by omega)).mp c184
                                exfalso; omega
                              ·
                                have c184 : ¬ an < 0 := fun h9 => c184 ((nI_ltI (a := an) (b := 0) (by omega) (by omega)).mpr h9)
                                refine lv_aload_n hx hb dL_ahead_187 rfl (lv_at hl 7 rfl) ?_
                                refine lv_bipush (v := 27) hx hb dL_ahead_188 (by decide) ?_
                                refine lv_iload hx hb dL_ahead_190 (lv_at hl 4 rfl) ?_
                                refine lqSi (As := [.ref (v 0), .int (27), .int (nI k)]) (rest := []) ⟨hx, hb, hml, hown, hts⟩ (c_ask_isWaiting l hl9 D T aK aV v B Op181 g ln unp181 nxp181 pl f0 f1 f2 k N K C (nt + (nn - 1)) hOIp181 (by omega) _) (va_cwS 3 hts (gC gl_L_call__) rfl rfl rfl (by decide +kernel) ⟨Nat.le_of_ble_eq_true rfl, Nat.le_of_ble_eq_true rfl⟩) (Foc.rfl _ _) hC hNC hK hP hD hS hA rfl hl.1 rfl (Nat.le_of_ble_eq_true rfl) ⟨by show _ ≤ 25500; omega, by show _ ≤ 153000; omega⟩ dL_ahead_192 (fun H locs hP hD hS => ?_)
                                have hP : va_P D vwCl (WIN T v B Op181 g ln unp181 nxp181 pl f0 f1 f2) H := hP
                                have hD : va_D A (WIN T v B Op181 g ln unp181 nxp181 pl f0 f1 f2) := hD
                                refine endI (r := bI (decide (oe 8 k = 0))) (by rw [hOp181]) ?_
                                refine endI (r := 1) (by rw [hoe, u3 (nn - 1) (by omega)]; rfl) ?_
                                refine lv_iconst (v := 1) hx hb dL_ahead_195 (by decide) ?_
                                refine lv_icmp_ne (tgt := 213) hx hb dL_ahead_196 (by decide) (fun c196 => ?_) (fun c196 => ?_)
                                ·
                                  exact absurd c196 (by decide)
                                ·
                                  refine lv_aload_n hx hb dL_ahead_199 rfl (lv_at hl 7 rfl) ?_
                                  refine lv_bipush (v := 9) hx hb dL_ahead_200 (by decide) ?_
                                  refine lv_iconst (v := 0) hx hb dL_ahead_202 (by decide) ?_
                                  refine lcSi (S := S3) (ws1 := fun u => (WIN T v B u.1 g ln u.2.1 u.2.2 pl f0 f1 f2 : va_W)) (wc1 := fun u => WIN T v B u.1 g ln u.2.1 u.2.2 pl f0 f1 f2) (As := [.ref (v 0), .int (9), .int (0)]) (rest := []) ⟨hx, hb, hml, hown, hts⟩ (c_ex_undo l hl9 D T aK aV v B Op181 g ln unp181 nxp181 pl f0 f1 f2 N K C (nt + (nn - 1)) hGp181 hup181 _) (va_cwS 3 hts (gC gl_L_call__) rfl rfl rfl (by decide +kernel) ⟨Nat.le_of_ble_eq_true rfl, Nat.le_of_ble_eq_true rfl⟩) (fun u => Foc.rfl _ _) (Foc.rfl _ _) hC hNC hK hP hD hS hA rfl hl.1 rfl (Nat.le_of_ble_eq_true rfl) ⟨by show _ ≤ 25500; omega, by show _ ≤ 153000; omega⟩ dL_ahead_203 (fun r9 u H locs hr hP hD hS => ?_)
                                  obtain ⟨Op203, unp203, nxp203⟩ := u
                                  obtain ⟨hr, hOp203, hGp203⟩ := hr
                                  replace hOp203 : Op203 0 = O 0 := hOp203.trans htopp181
                                  replace hGp203 : GW Op203 unp203 nxp203 f2 := hGp203
                                  have hOVp203 : OV (Op203 0) N K C nt := by rw [hOp203]; exact hOV
                                  have hOIp203 := hOVp203.oi
                                  replace hr : r9 = nI (unp181 - 1) := hr
                                  subst hr
                                  have hP : va_P D vwCl (WIN T v B Op203 g ln unp203 nxp203 pl f0 f1 f2) H := hP
                                  have hD : va_D A (WIN T v B Op203 g ln unp203 nxp203 pl f0 f1 f2) := hD
                                  refine lv_if_lt (tgt := 213) hx hb dL_ahead_206 (by decide) (fun c206 => ?_) (fun c206 => ?_)
                                  ·
                                    have c206 : (unp181 - 1) < 0 := (nI_ltI (a := (unp181 - 1)) (b := 0) (by omega) (by omega)).mp c206
                                    exfalso; omega
                                  ·
                                    have c206 : ¬ (unp181 - 1) < 0 := fun h9 => c206 ((nI_ltI (a := (unp181 - 1)) (b := 0) (by omega) (by omega)).mpr h9)
                                    refine lv_iconst (v := 1) hx hb dL_ahead_209 (by decide) ?_
                                    refine lv_goto (tgt := 214) hx hb dL_ahead_210 (by decide) ?_
                                    refine lv_istore (lv' := [(4, .int (1)), (9, .int (nI (nt - ff))), (8, .int (1)), (7, .int (nI nn)), (6, .int (nI k)), (5, .int (nI N)), (2, .long (stC (O 0) N K C)), (0, .ref (v 0)), (1, .int (nI w))]) hx hb dL_ahead_214 hl (by decide) rfl (fun ls hl => ?_)
                                    refine lv_iload hx hb dL_ahead_216 (lv_at hl 0 rfl) ?_
                                    refine lv_if_eq (tgt := 270) hx hb dL_ahead_218 (by decide) (fun c218 => ?_) (fun c218 => ?_)
                                    ·
                                      exact absurd c218 (by decide)
                                    ·
                                      refine lv_aload_n hx hb dL_ahead_221 rfl (lv_at hl 7 rfl) ?_
                                      refine lv_bipush (v := 8) hx hb dL_ahead_222 (by decide) ?_
                                      refine lv_iload hx hb dL_ahead_224 (lv_at hl 3 rfl) ?_
                                      refine lcSi (S := S3) (ws1 := fun u => (WIN T v B u.1 g ln u.2.1 u.2.2 pl f0 f1 f2 : va_W)) (wc1 := fun u => WIN T v B u.1 g ln u.2.1 u.2.2 pl f0 f1 f2) (As := [.ref (v 0), .int (8), .int (nI nn)]) (rest := []) ⟨hx, hb, hml, hown, hts⟩ (c_ex_ends l hl9 D T aK aV v B Op203 g ln unp203 nxp203 pl f0 f1 f2 nn N K C nt hOVp203 hGp203 (by omega) (by omega) (by omega) _) (va_cwS 3 hts (gC gl_L_call__) rfl rfl rfl (by decide +kernel) ⟨Nat.le_of_ble_eq_true rfl, Nat.le_of_ble_eq_true rfl⟩) (fun u => Foc.rfl _ _) (Foc.rfl _ _) hC hNC hK hP hD hS hA rfl hl.1 rfl (Nat.le_of_ble_eq_true rfl) ⟨by show _ ≤ 25500; omega, by show _ ≤ 153000; omega⟩ dL_ahead_226 (fun r9 u H locs hr hP hD hS => ?_)
                                      obtain ⟨Op226, unp226, nxp226⟩ := u
                                      obtain ⟨ol, hol⟩ : ∃ o9, o9 = pN N K C (nn) nt (O 0) := ⟨_, rfl⟩
                                      obtain ⟨hr, hOp226, hGp226, hup226, htopp226⟩ := hr
                                      replace hOp226 : Op226 0 = ol := by rw [hol, ← hOp203]; exact hOp226
                                      replace hGp226 : GW Op226 unp226 nxp226 f2 := hGp226
                                      replace hup226 : 0 < unp226 := hup226
                                      replace htopp226 : Op226 (3 + (nxp226 + 7) % 8) = O 0 := by rw [← hOp203]; exact htopp226
                                      have hOVp226 : OV (Op226 0) (N) K C (nt + (nn)) := by rw [hOp226]; exact by rw [hol]; exact hOV.pN (nn) (by omega)
                                      have hOIp226 := hOVp226.oi
                                      have hunp226 := hGp226.un8
                                      obtain ⟨an, han, hr9⟩ := ends_nn (N := N) (K := K) (C := C) (nt := nt) (o := O 0) hOV nn (by omega) (by omega)
                                      replace hr : r9 = nI an := by rw [← hr9, ← hOp203]; exact hr
                                      subst hr
                                      have hP : va_P D vwCl (WIN T v B Op226 g ln unp226 nxp226 pl f0 f1 f2) H := hP
                                      have hD : va_D A (WIN T v B Op226 g ln unp226 nxp226 pl f0 f1 f2) := hD
                                      refine lv_if_lt (tgt := 270) hx hb dL_ahead_229 (by decide) (fun c229 => ?_) (fun c229 => ?_)
                                      ·
                                        have c229 : an < 0 := (nI_ltI (a := an) (b := 0) (by omega) (by omega)).mp c229
                                        exfalso; omega
                                      ·
                                        have c229 : ¬ an < 0 := fun h9 => c229 ((nI_ltI (a := an) (b := 0) (by omega) (by omega)).mpr h9)
                                        refine lv_aload_n hx hb dL_ahead_232 rfl (lv_at hl 7 rfl) ?_
                                        refine lv_bipush (v := 27) hx hb dL_ahead_233 (by decide) ?_
                                        refine lv_iload hx hb dL_ahead_235 (lv_at hl 4 rfl) ?_
                                        refine lqSi (As := [.ref (v 0), .int (27), .int (nI k)]) (rest := []) ⟨hx, hb, hml, hown, hts⟩ (c_ask_isWaiting l hl9 D T aK aV v B Op226 g ln unp226 nxp226 pl f0 f1 f2 k N K C (nt + (nn)) hOIp226 (by omega) _) (va_cwS 3 hts (gC gl_L_call__) rfl rfl rfl (by decide +kernel) ⟨Nat.le_of_ble_eq_true rfl, Nat.le_of_ble_eq_true rfl⟩) (Foc.rfl _ _) hC hNC hK hP hD hS hA rfl hl.1 rfl (Nat.le_of_ble_eq_true rfl) ⟨by show _ ≤ 25500; omega, by show _ ≤ 153000; omega⟩ dL_ahead_237 (fun H locs hP hD hS => ?_)
                                        have hP : va_P D vwCl (WIN T v B Op226 g ln unp226 nxp226 pl f0 f1 f2) H := hP
                                        have hD : va_D A (WIN T v B Op226 g ln unp226 nxp226 pl f0 f1 f2) := hD
                                        refine endI (r := bI (decide (ol 8 k = 0))) (by rw [hOp226]) ?_
                                        refine endI (r := 0) (by rw [hol, decide_eq_false u2]; rfl) ?_
                                        refine lv_if_ne (tgt := 270) hx hb dL_ahead_240 (by decide) (fun c240 => ?_) (fun c240 => ?_)
                                        ·
                                          exact absurd c240 (by decide)
                                        ·
                                          refine lv_aload_n hx hb dL_ahead_243 rfl (lv_at hl 7 rfl) ?_
                                          refine lv_bipush (v := 28) hx hb dL_ahead_244 (by decide) ?_
                                          refine lv_iload hx hb dL_ahead_246 (lv_at hl 4 rfl) ?_
                                          refine lqSi (As := [.ref (v 0), .int (28), .int (nI k)]) (rest := []) ⟨hx, hb, hml, hown, hts⟩ (c_ask_isAnswered l hl9 D T aK aV v B Op226 g ln unp226 nxp226 pl f0 f1 f2 k N K C (nt + (nn)) hOIp226 (by omega) _) (va_cwS 3 hts (gC gl_L_call__) rfl rfl rfl (by decide +kernel) ⟨Nat.le_of_ble_eq_true rfl, Nat.le_of_ble_eq_true rfl⟩) (Foc.rfl _ _) hC hNC hK hP hD hS hA rfl hl.1 rfl (Nat.le_of_ble_eq_true rfl) ⟨by show _ ≤ 25500; omega, by show _ ≤ 153000; omega⟩ dL_ahead_248 (fun H locs hP hD hS => ?_)
                                          have hP : va_P D vwCl (WIN T v B Op226 g ln unp226 nxp226 pl f0 f1 f2) H := hP
                                          have hD : va_D A (WIN T v B Op226 g ln unp226 nxp226 pl f0 f1 f2) := hD
                                          refine endI (r := bI (decide (ol 8 k = 1))) (by rw [hOp226]) ?_
                                          refine endI (r := 1) (by rw [hol, hwA]; rfl) ?_
                                          refine lv_iload hx hb dL_ahead_251 (lv_at hl 2 rfl) ?_
                                          refine lv_icmp_ne (tgt := 270) hx hb dL_ahead_253 (by decide) (fun c253 => ?_) (fun c253 => ?_)
                                          ·
                                            exact absurd c253 (by decide)
                                          ·
                                            refine lv_aload_n hx hb dL_ahead_256 rfl (lv_at hl 7 rfl) ?_
                                            refine lv_bipush (v := 9) hx hb dL_ahead_257 (by decide) ?_
                                            refine lv_iconst (v := 0) hx hb dL_ahead_259 (by decide) ?_
                                            refine lcSi (S := S3) (ws1 := fun u => (WIN T v B u.1 g ln u.2.1 u.2.2 pl f0 f1 f2 : va_W)) (wc1 := fun u => WIN T v B u.1 g ln u.2.1 u.2.2 pl f0 f1 f2) (As := [.ref (v 0), .int (9), .int (0)]) (rest := []) ⟨hx, hb, hml, hown, hts⟩ (c_ex_undo l hl9 D T aK aV v B Op226 g ln unp226 nxp226 pl f0 f1 f2 N K C (nt + (nn)) hGp226 hup226 _) (va_cwS 3 hts (gC gl_L_call__) rfl rfl rfl (by decide +kernel) ⟨Nat.le_of_ble_eq_true rfl, Nat.le_of_ble_eq_true rfl⟩) (fun u => Foc.rfl _ _) (Foc.rfl _ _) hC hNC hK hP hD hS hA rfl hl.1 rfl (Nat.le_of_ble_eq_true rfl) ⟨by show _ ≤ 25500; omega, by show _ ≤ 153000; omega⟩ dL_ahead_260 (fun r9 u H locs hr hP hD hS => ?_)
                                            obtain ⟨Op260, unp260, nxp260⟩ := u
                                            obtain ⟨hr, hOp260, hGp260⟩ := hr
                                            replace hOp260 : Op260 0 = O 0 := hOp260.trans htopp226
                                            replace hGp260 : GW Op260 unp260 nxp260 f2 := hGp260
                                            have hOVp260 : OV (Op260 0) N K C nt := by rw [hOp260]; exact hOV
                                            have hOIp260 := hOVp260.oi
                                            replace hr : r9 = nI (unp226 - 1) := hr
                                            subst hr
                                            have hP : va_P D vwCl (WIN T v B Op260 g ln unp260 nxp260 pl f0 f1 f2) H := hP
                                            have hD : va_D A (WIN T v B Op260 g ln unp260 nxp260 pl f0 f1 f2) := hD
                                            refine lv_if_lt (tgt := 270) hx hb dL_ahead_263 (by decide) (fun c263 => ?_) (fun c263 => ?_)
                                            ·
                                              have c263 : (unp226 - 1) < 0 := (nI_ltI (a := (unp226 - 1)) (b := 0) (by omega) (by omega)).mp c263
                                              exfalso; omega
                                            ·
                                              have c263 : ¬ (unp226 - 1) < 0 := fun h9 => c263 ((nI_ltI (a := (unp226 - 1)) (b := 0) (by omega) (by omega)).mpr h9)
                                              refine lv_iconst (v := 1) hx hb dL_ahead_266 (by decide) ?_
                                              refine lv_goto (tgt := 271) hx hb dL_ahead_267 (by decide) ?_
                                              refine lv_istore (lv' := [(4, .int (1)), (9, .int (nI (nt - ff))), (8, .int (1)), (7, .int (nI nn)), (6, .int (nI k)), (5, .int (nI N)), (2, .long (stC (O 0) N K C)), (0, .ref (v 0)), (1, .int (nI w))]) hx hb dL_ahead_271 hl (by decide) rfl (fun ls hl => ?_)
                                              refine lv_iload hx hb dL_ahead_273 (lv_at hl 0 rfl) ?_
                                              refine lv_if_eq (tgt := 351) hx hb dL_ahead_275 (by decide) (fun c275 => ?_) (fun c275 => ?_)
                                              ·
                                                exact absurd c275 (by decide)
                                              ·
                                                refine lv_aload_n hx hb dL_ahead_278 rfl (lv_at hl 7 rfl) ?_
                                                refine lv_iconst (v := 1) hx hb dL_ahead_279 (by decide) ?_
                                                refine lv_iload hx hb dL_ahead_280 (lv_at hl 4 rfl) ?_
                                                refine lcSi (S := S3) (ws1 := fun u => (WIN T v B u.1 g ln u.2.1 u.2.2 pl f0 f1 f2 : va_W)) (wc1 := fun u => WIN T v B u.1 g ln u.2.1 u.2.2 pl f0 f1 f2) (As := [.ref (v 0), .int (1), .int (nI k)]) (rest := []) ⟨hx, hb, hml, hown, hts⟩ (c_ex_give l hl9 D T aK aV v B Op260 g ln unp260 nxp260 pl f0 f1 f2 k N K C nt hOVp260 hGp260 (by omega) (by rw [hOp260]; exact h8) (by omega) _) (va_cwS 3 hts (gC gl_L_call__) rfl rfl rfl (by decide +kernel) ⟨Nat.le_of_ble_eq_true rfl, Nat.le_of_ble_eq_true rfl⟩) (fun u => Foc.rfl _ _) (Foc.rfl _ _) hC hNC hK hP hD hS hA rfl hl.1 rfl (Nat.le_of_ble_eq_true rfl) ⟨by show _ ≤ 25500; omega, by show _ ≤ 153000; omega⟩ dL_ahead_282 (fun r9 u H locs hr hP hD hS => ?_)
                                                obtain ⟨Op282, unp282, nxp282⟩ := u
                                                obtain ⟨og, hog⟩ : ∃ o9, o9 = pileClose (O 0) k 3 ((O 0) 0 0) (-1) := ⟨_, rfl⟩
                                                have g8 : og 8 k = 3 := by rw [hog]; exact if_pos rfl
                                                have g9 : og 9 k = nI nt := by rw [hog]; exact (if_pos rfl).trans hn
                                                have g10 : og 10 k = -1 := by rw [hog]; exact if_pos rfl
                                                have g00 : og 0 0 = nI nt := by rw [hog]; exact hn
                                                obtain ⟨hr, hOp282, hGp282, hup282, htopp282⟩ := hr
                                                replace hOp282 : Op282 0 = og := by rw [hog, ← hOp260]; exact hOp282
                                                replace hGp282 : GW Op282 unp282 nxp282 f2 := hGp282
                                                replace hup282 : 0 < unp282 := hup282
                                                replace htopp282 : Op282 (3 + (nxp282 + 7) % 8) = O 0 := by rw [← hOp260]; exact htopp282
                                                have hOVp282 : OV (Op282 0) (N) K C (nt) := by rw [hOp282]; exact by rw [hog]; exact hOV.give (by omega) h8
                                                have hOIp282 := hOVp282.oi
                                                have hunp282 := hGp282.un8
                                                replace hr : r9 = nI (nt - ff) := by rw [hr, hOp260, hn, e7]; exact pk_sub (by omega)
                                                subst hr
                                                have hP : va_P D vwCl (WIN T v B Op282 g ln unp282 nxp282 pl f0 f1 f2) H := hP
                                                have hD : va_D A (WIN T v B Op282 g ln unp282 nxp282 pl f0 f1 f2) := hD
                                                refine lv_iload hx hb dL_ahead_285 (lv_at hl 1 rfl) ?_
                                                refine lv_icmp_ne (tgt := 351) hx hb dL_ahead_287 (by decide) (fun c287 => ?_) (fun c287 => ?_)
                                                ·
                                                  exact absurd rfl c287
                                                ·
                                                  refine lv_aload_n hx hb dL_ahead_290 rfl (lv_at hl 7 rfl) ?_
                                                  refine lv_bipush (v := 30) hx hb dL_ahead_291 (by decide) ?_
                                                  refine lv_iload hx hb dL_ahead_293 (lv_at hl 4 rfl) ?_
                                                  refine lqSi (As := [.ref (v 0), .int (30), .int (nI k)]) (rest := []) ⟨hx, hb, hml, hown, hts⟩ (c_ask_isGivenUp l hl9 D T aK aV v B Op282 g ln unp282 nxp282 pl f0 f1 f2 k N K C nt hOIp282 (by omega) _) (va_cwS 3 hts (gC gl_L_call__) rfl rfl rfl (by decide +kernel) ⟨Nat.le_of_ble_eq_true rfl, Nat.le_of_ble_eq_true rfl⟩) (Foc.rfl _ _) hC hNC hK hP hD hS hA rfl hl.1 rfl (Nat.le_of_ble_eq_true rfl) ⟨by show _ ≤ 25500; omega, by show _ ≤ 153000; omega⟩ dL_ahead_295 (fun H locs hP hD hS => ?_)
                                                  have hP : va_P D vwCl (WIN T v B Op282 g ln unp282 nxp282 pl f0 f1 f2) H := hP
                                                  have hD : va_D A (WIN T v B Op282 g ln unp282 nxp282 pl f0 f1 f2) := hD
                                                  refine endI (r := bI (decide (og 8 k = 3))) (by rw [hOp282]) ?_
                                                  refine endI (r := 1) (by rw [g8]; rfl) ?_
                                                  refine lv_iconst (v := 1) hx hb dL_ahead_298 (by decide) ?_
                                                  refine lv_icmp_ne (tgt := 351) hx hb dL_ahead_299 (by decide) (fun c299 => ?_) (fun c299 => ?_)
                                                  ·
                                                    exact absurd c299 (by decide)
                                                  ·
                                                    refine lv_aload_n hx hb dL_ahead_302 rfl (lv_at hl 7 rfl) ?_
                                                    refine lv_bipush (v := 31) hx hb dL_ahead_303 (by decide) ?_
                                                    refine lv_iload hx hb dL_ahead_305 (lv_at hl 4 rfl) ?_
                                                    refine lqSi (As := [.ref (v 0), .int (31), .int (nI k)]) (rest := []) ⟨hx, hb, hml, hown, hts⟩ (c_ask_closedIn l hl9 D T aK aV v B Op282 g ln unp282 nxp282 pl f0 f1 f2 k N K C nt hOIp282 (by omega) _) (va_cwS 3 hts (gC gl_L_call__) rfl rfl rfl (by decide +kernel) ⟨Nat.le_of_ble_eq_true rfl, Nat.le_of_ble_eq_true rfl⟩) (Foc.rfl _ _) hC hNC hK hP hD hS hA rfl hl.1 rfl (Nat.le_of_ble_eq_true rfl) ⟨by show _ ≤ 25500; omega, by show _ ≤ 153000; omega⟩ dL_ahead_307 (fun H locs hP hD hS => ?_)
                                                    have hP : va_P D vwCl (WIN T v B Op282 g ln unp282 nxp282 pl f0 f1 f2) H := hP
                                                    have hD : va_D A (WIN T v B Op282 g ln unp282 nxp282 pl f0 f1 f2) := hD
                                                    refine endI (r := if og 8 k = 0 then -101 else og 9 k) (by rw [hOp282]) ?_
                                                    refine endI (r := nI nt) (by rw [if_neg (by rw [g8]; decide)]; exact g9) ?_
                                                    refine lv_aload_n hx hb dL_ahead_310 rfl (lv_at hl 7 rfl) ?_
                                                    refine rdV (As := []) (rest := [.int (nI nt)]) ⟨hx, hb, hml, hown, hts⟩ (c_X9_night l D T v B Op282 g ln unp282 nxp282 pl f0 f1 f2 ) (cwV 0 hts (gC gl_X9_night) rfl rfl rfl (by decide +kernel) ⟨Nat.le_of_ble_eq_true rfl, Nat.le_of_ble_eq_true rfl⟩) hK hP 0 rfl rfl rfl hl.1 rfl (Nat.le_of_ble_eq_true rfl) ⟨by show _ ≤ 25500; omega, by show _ ≤ 153000; omega⟩ dL_ahead_311 ?_
                                                    refine endI (r := og 0 0) (by rw [hOp282]) ?_
                                                    refine endI (r := nI nt) (g00) ?_
                                                    refine lv_icmp_ne (tgt := 351) hx hb dL_ahead_314 (by decide) (fun c314 => ?_) (fun c314 => ?_)
                                                    ·
                                                      exact absurd rfl c314
                                                    ·
                                                      refine lv_aload_n hx hb dL_ahead_317 rfl (lv_at hl 7 rfl) ?_
                                                      refine lv_bipush (v := 32) hx hb dL_ahead_318 (by decide) ?_
                                                      refine lv_iload hx hb dL_ahead_320 (lv_at hl 4 rfl) ?_
                                                      refine lqSi (As := [.ref (v 0), .int (32), .int (nI k)]) (rest := []) ⟨hx, hb, hml, hown, hts⟩ (c_ask_clerkOf l hl9 D T aK aV v B Op282 g ln unp282 nxp282 pl f0 f1 f2 k N K C nt hOIp282 (by omega) _) (va_cwS 3 hts (gC gl_L_call__) rfl rfl rfl (by decide +kernel) ⟨Nat.le_of_ble_eq_true rfl, Nat.le_of_ble_eq_true rfl⟩) (Foc.rfl _ _) hC hNC hK hP hD hS hA rfl hl.1 rfl (Nat.le_of_ble_eq_true rfl) ⟨by show _ ≤ 25500; omega, by show _ ≤ 153000; omega⟩ dL_ahead_322 (fun H locs hP hD hS => ?_)
                                                      have hP : va_P D vwCl (WIN T v B Op282 g ln unp282 nxp282 pl f0 f1 f2) H := hP
                                                      have hD : va_D A (WIN T v B Op282 g ln unp282 nxp282 pl f0 f1 f2) := hD
                                                      refine endI (r := if og 10 k = -1 then -101 else og 10 k) (by rw [hOp282]) ?_
                                                      refine endI (r := -101) (if_pos g10) ?_
                                                      refine lv_bipush (v := -101) hx hb dL_ahead_325 (by decide) ?_
                                                      refine lv_icmp_ne (tgt := 351) hx hb dL_ahead_327 (by decide) (fun c327 => ?_) (fun c327 => ?_)
                                                      ·
                                                        exact absurd c327 (by decide)
                                                      ·
                                                        refine lv_aload_n hx hb dL_ahead_330 rfl (lv_at hl 7 rfl) ?_
                                                        refine lqSi (As := [.ref (v 0)]) (rest := []) ⟨hx, hb, hml, hown, hts⟩ (c_L_books l hl9 D T aK aV v B Op282 g ln unp282 nxp282 pl f0 f1 f2 N K C nt hOIp282 hOVp282 (by omega) _) (va_cwS 1 hts (gC gl_L_books) rfl rfl rfl (by decide +kernel) ⟨Nat.le_of_ble_eq_true rfl, Nat.le_of_ble_eq_true rfl⟩) (Foc.rfl _ _) hC hNC hK hP hD hS hA rfl hl.1 rfl (Nat.le_of_ble_eq_true rfl) ⟨by show _ ≤ 25500; omega, by show _ ≤ 153000; omega⟩ dL_ahead_331 (fun H locs hP hD hS => ?_)
                                                        have hP : va_P D vwCl (WIN T v B Op282 g ln unp282 nxp282 pl f0 f1 f2) H := hP
                                                        have hD : va_D A (WIN T v B Op282 g ln unp282 nxp282 pl f0 f1 f2) := hD
                                                        refine lv_if_eq (tgt := 351) hx hb dL_ahead_334 (by decide) (fun c334 => ?_) (fun c334 => ?_)
                                                        ·
                                                          exact absurd c334 (by decide)
                                                        ·
                                                          refine lv_aload_n hx hb dL_ahead_337 rfl (lv_at hl 7 rfl) ?_
                                                          refine lv_bipush (v := 9) hx hb dL_ahead_338 (by decide) ?_
                                                          refine lv_iconst (v := 0) hx hb dL_ahead_340 (by decide) ?_
                                                          refine lcSi (S := S3) (ws1 := fun u => (WIN T v B u.1 g ln u.2.1 u.2.2 pl f0 f1 f2 : va_W)) (wc1 := fun u => WIN T v B u.1 g ln u.2.1 u.2.2 pl f0 f1 f2) (As := [.ref (v 0), .int (9), .int (0)]) (rest := []) ⟨hx, hb, hml, hown, hts⟩ (c_ex_undo l hl9 D T aK aV v B Op282 g ln unp282 nxp282 pl f0 f1 f2 N K C nt hGp282 hup282 _) (va_cwS 3 hts (gC gl_L_call__) rfl rfl rfl (by decide +kernel) ⟨Nat.le_of_ble_eq_true rfl, Nat.le_of_ble_eq_true rfl⟩) (fun u => Foc.rfl _ _) (Foc.rfl _ _) hC hNC hK hP hD hS hA rfl hl.1 rfl (Nat.le_of_ble_eq_true rfl) ⟨by show _ ≤ 25500; omega, by show _ ≤ 153000; omega⟩ dL_ahead_341 (fun r9 u H locs hr hP hD hS => ?_)
                                                          obtain ⟨Op341, unp341, nxp341⟩ := u
                                                          obtain ⟨hr, hOp341, hGp341⟩ := hr
                                                          replace hOp341 : Op341 0 = O 0 := hOp341.trans htopp282
                                                          replace hGp341 : GW Op341 unp341 nxp341 f2 := hGp341
                                                          have hOVp341 : OV (Op341 0) N K C nt := by rw [hOp341]; exact hOV
                                                          have hOIp341 := hOVp341.oi
                                                          replace hr : r9 = nI (unp282 - 1) := hr
                                                          subst hr
                                                          have hP : va_P D vwCl (WIN T v B Op341 g ln unp341 nxp341 pl f0 f1 f2) H := hP
                                                          have hD : va_D A (WIN T v B Op341 g ln unp341 nxp341 pl f0 f1 f2) := hD
                                                          refine lv_if_lt (tgt := 351) hx hb dL_ahead_344 (by decide) (fun c344 => ?_) (fun c344 => ?_)
                                                          ·
                                                            have c344 : (unp282 - 1) < 0 := (nI_ltI (a := (unp282 - 1)) (b := 0) (by omega) (by omega)).mp c344
                                                            exfalso; omega
                                                          ·
                                                            have c344 : ¬ (unp282 - 1) < 0 := fun h9 => c344 ((nI_ltI (a := (unp282 - 1)) (b := 0) (by omega) (by omega)).mpr h9)
                                                            refine lv_iconst (v := 1) hx hb dL_ahead_347 (by decide) ?_
                                                            refine lv_goto (tgt := 352) hx hb dL_ahead_348 (by decide) ?_
                                                            refine lv_istore (lv' := [(4, .int (1)), (9, .int (nI (nt - ff))), (8, .int (1)), (7, .int (nI nn)), (6, .int (nI k)), (5, .int (nI N)), (2, .long (stC (O 0) N K C)), (0, .ref (v 0)), (1, .int (nI w))]) hx hb dL_ahead_352 hl (by decide) rfl (fun ls hl => ?_)
                                                            refine lv_iinc (v := nI (k + 3)) (lv' := [(6, .int (nI (k + 3))), (4, .int (1)), (9, .int (nI (nt - ff))), (8, .int (1)), (7, .int (nI nn)), (5, .int (nI N)), (2, .long (stC (O 0) N K C)), (0, .ref (v 0)), (1, .int (nI w))]) hx hb dL_ahead_354 hl (k := 4) rfl (nI_add _ _) (by decide) rfl (fun ls hl => ?_)
                                                            refine lv_goto (tgt := 23) hx hb dL_ahead_357 (by decide) ?_
                                                            exact ih23 (k + 3) Op341 unp341 nxp341 _ _ (by omega) (by omega) (by exact hOp341) (by exact hGp341) (by omega) (by omega) _ _ _ hP hD hS (lv_sub hl [0, 5, 1, 6, 7, 8] rfl)
                      ·
                        exact absurd c135 (by decide)
                ·
                  exact absurd c63 (by decide)
              ·
                refine lv_aload_n hx hb dL_ahead_35 rfl (lv_at hl 4 rfl) ?_
                refine lv_bipush (v := 41) hx hb dL_ahead_36 (by decide) ?_
                refine lv_iload hx hb dL_ahead_38 (lv_at hl 0 rfl) ?_
                refine lcSi (S := S3) (ws1 := fun u => (WIN T v B u.1 g ln u.2.1 u.2.2 pl f0 f1 f2 : va_W)) (wc1 := fun u => WIN T v B u.1 g ln u.2.1 u.2.2 pl f0 f1 f2) (As := [.ref (v 0), .int (41), .int (nI k)]) (rest := []) ⟨hx, hb, hml, hown, hts⟩ (c_ex_close l hl9 D T aK aV v B Oa g ln una nxa pl f0 f1 f2 k N K C nt hOVa hGa (by omega) (by rw [hOa]; exact h8) (by omega) _) (va_cwS 3 hts (gC gl_L_call__) rfl rfl rfl (by decide +kernel) ⟨Nat.le_of_ble_eq_true rfl, Nat.le_of_ble_eq_true rfl⟩) (fun u => Foc.rfl _ _) (Foc.rfl _ _) hC hNC hK hP hD hS hA rfl hl.1 rfl (Nat.le_of_ble_eq_true rfl) ⟨by show _ ≤ 25500; omega, by show _ ≤ 153000; omega⟩ dL_ahead_40 (fun r9 u H locs hr hP hD hS => ?_)
                obtain ⟨Op40, unp40, nxp40⟩ := u
                obtain ⟨hr, hOp40, hGp40⟩ := hr
                replace hOp40 : Op40 0 = O 0 := hOp40.trans hOa
                replace hGp40 : GW Op40 unp40 nxp40 f2 := hGp40
                have hOVp40 : OV (Op40 0) N K C nt := by rw [hOp40]; exact hOV
                have hOIp40 := hOVp40.oi
                replace hr : r9 = nI nn := by rw [hnn, ← hOa]; exact hr
                subst hr
                have hP : va_P D vwCl (WIN T v B Op40 g ln unp40 nxp40 pl f0 f1 f2) H := hP
                have hD : va_D A (WIN T v B Op40 g ln unp40 nxp40 pl f0 f1 f2) := hD
                refine lv_istore (lv' := [(7, .int (nI nn)), (6, .int (nI k)), (5, .int (nI N)), (4, .int (1)), (2, .long (stC (O 0) N K C)), (0, .ref (v 0)), (1, .int (nI w))]) hx hb dL_ahead_43 hl (by decide) rfl (fun ls hl => ?_)
                refine lv_aload_n hx hb dL_ahead_45 rfl (lv_at hl 5 rfl) ?_
                refine lv_bipush (v := 42) hx hb dL_ahead_46 (by decide) ?_
                refine lv_iload hx hb dL_ahead_48 (lv_at hl 1 rfl) ?_
                refine lcSi (S := S3) (ws1 := fun u => (WIN T v B u.1 g ln u.2.1 u.2.2 pl f0 f1 f2 : va_W)) (wc1 := fun u => WIN T v B u.1 g ln u.2.1 u.2.2 pl f0 f1 f2) (As := [.ref (v 0), .int (42), .int (nI k)]) (rest := []) ⟨hx, hb, hml, hown, hts⟩ (c_ex_will l hl9 D T aK aV v B Op40 g ln unp40 nxp40 pl f0 f1 f2 k N K C nt hOVp40 hGp40 (by omega) (by rw [hOp40]; exact h8) (by omega) _) (va_cwS 3 hts (gC gl_L_call__) rfl rfl rfl (by decide +kernel) ⟨Nat.le_of_ble_eq_true rfl, Nat.le_of_ble_eq_true rfl⟩) (fun u => Foc.rfl _ _) (Foc.rfl _ _) hC hNC hK hP hD hS hA rfl hl.1 rfl (Nat.le_of_ble_eq_true rfl) ⟨by show _ ≤ 25500; omega, by show _ ≤ 153000; omega⟩ dL_ahead_50 (fun r9 u H locs hr hP hD hS => ?_)
                obtain ⟨Op50, unp50, nxp50⟩ := u
                obtain ⟨hr, hOp50, hGp50⟩ := hr
                replace hOp50 : Op50 0 = O 0 := hOp50.trans hOp40
                replace hGp50 : GW Op50 unp50 nxp50 f2 := hGp50
                have hOVp50 : OV (Op50 0) N K C nt := by rw [hOp50]; exact hOV
                have hOIp50 := hOVp50.oi
                replace hr : r9 = 0 := by
                    rw [hOp40] at hr
                    refine hr.trans ?_
                    rw [u1, decide_eq_false (hwA : ¬ pN N K C nn nt (O 0) 8 k = 1)]; rfl
                subst hr
                have hP : va_P D vwCl (WIN T v B Op50 g ln unp50 nxp50 pl f0 f1 f2) H := hP
                have hD : va_D A (WIN T v B Op50 g ln unp50 nxp50 pl f0 f1 f2) := hD
                refine lv_istore (lv' := [(8, .int (0)), (7, .int (nI nn)), (6, .int (nI k)), (5, .int (nI N)), (4, .int (1)), (2, .long (stC (O 0) N K C)), (0, .ref (v 0)), (1, .int (nI w))]) hx hb dL_ahead_53 hl (by decide) rfl (fun ls hl => ?_)
                refine lv_aload_n hx hb dL_ahead_55 rfl (lv_at hl 6 rfl) ?_
                refine lv_bipush (v := 27) hx hb dL_ahead_56 (by decide) ?_
                refine lv_iload hx hb dL_ahead_58 (lv_at hl 2 rfl) ?_
                refine lqSi (As := [.ref (v 0), .int (27), .int (nI k)]) (rest := []) ⟨hx, hb, hml, hown, hts⟩ (c_ask_isWaiting l hl9 D T aK aV v B Op50 g ln unp50 nxp50 pl f0 f1 f2 k N K C nt hOIp50 (by omega) _) (va_cwS 3 hts (gC gl_L_call__) rfl rfl rfl (by decide +kernel) ⟨Nat.le_of_ble_eq_true rfl, Nat.le_of_ble_eq_true rfl⟩) (Foc.rfl _ _) hC hNC hK hP hD hS hA rfl hl.1 rfl (Nat.le_of_ble_eq_true rfl) ⟨by show _ ≤ 25500; omega, by show _ ≤ 153000; omega⟩ dL_ahead_60 (fun H locs hP hD hS => ?_)
                have hP : va_P D vwCl (WIN T v B Op50 g ln unp50 nxp50 pl f0 f1 f2) H := hP
                have hD : va_D A (WIN T v B Op50 g ln unp50 nxp50 pl f0 f1 f2) := hD
                refine endI (r := bI (decide ((O 0) 8 k = 0))) (by rw [hOp50]) ?_
                refine endI (r := 1) (by rw [h8]; rfl) ?_
                refine lv_if_ne (tgt := 102) hx hb dL_ahead_63 (by decide) (fun c63 => ?_) (fun c63 => ?_)
                ·
                  refine lv_aload_n hx hb dL_ahead_102 rfl (lv_at hl 6 rfl) ?_
                  refine rdV (As := []) (rest := []) ⟨hx, hb, hml, hown, hts⟩ (c_X9_night l D T v B Op50 g ln unp50 nxp50 pl f0 f1 f2 ) (cwV 0 hts (gC gl_X9_night) rfl rfl rfl (by decide +kernel) ⟨Nat.le_of_ble_eq_true rfl, Nat.le_of_ble_eq_true rfl⟩) hK hP 0 rfl rfl rfl hl.1 rfl (Nat.le_of_ble_eq_true rfl) ⟨by show _ ≤ 25500; omega, by show _ ≤ 153000; omega⟩ dL_ahead_103 ?_
                  refine endI (r := (O 0) 0 0) (by rw [hOp50]) ?_
                  refine endI (r := nI nt) (hn) ?_
                  refine lv_aload_n hx hb dL_ahead_106 rfl (lv_at hl 6 rfl) ?_
                  refine lv_bipush (v := 26) hx hb dL_ahead_107 (by decide) ?_
                  refine lv_iload hx hb dL_ahead_109 (lv_at hl 2 rfl) ?_
                  refine lqSi (As := [.ref (v 0), .int (26), .int (nI k)]) (rest := [.int (nI nt)]) ⟨hx, hb, hml, hown, hts⟩ (c_ask_filedIn l hl9 D T aK aV v B Op50 g ln unp50 nxp50 pl f0 f1 f2 k N K C nt hOIp50 (by omega) _) (va_cwS 3 hts (gC gl_L_call__) rfl rfl rfl (by decide +kernel) ⟨Nat.le_of_ble_eq_true rfl, Nat.le_of_ble_eq_true rfl⟩) (Foc.rfl _ _) hC hNC hK hP hD hS hA rfl hl.1 rfl (Nat.le_of_ble_eq_true rfl) ⟨by show _ ≤ 25500; omega, by show _ ≤ 153000; omega⟩ dL_ahead_111 (fun H locs hP hD hS => ?_)
                  have hP : va_P D vwCl (WIN T v B Op50 g ln unp50 nxp50 pl f0 f1 f2) H := hP
                  have hD : va_D A (WIN T v B Op50 g ln unp50 nxp50 pl f0 f1 f2) := hD
                  refine endI (r := (O 0) 7 k) (by rw [hOp50]) ?_
                  refine endI (r := nI ff) (e7) ?_
                  refine lv_isub hx hb dL_ahead_114 ?_
                  refine endI (r := nI (nt - ff)) (pk_sub (a := nt) (b := ff) (by omega)) ?_
                  refine lv_istore (lv' := [(9, .int (nI (nt - ff))), (8, .int (0)), (7, .int (nI nn)), (6, .int (nI k)), (5, .int (nI N)), (4, .int (1)), (2, .long (stC (O 0) N K C)), (0, .ref (v 0)), (1, .int (nI w))]) hx hb dL_ahead_115 hl (by decide) rfl (fun ls hl => ?_)
                  refine lv_iload hx hb dL_ahead_117 (lv_at hl 2 rfl) ?_
                  refine lv_if_le (tgt := 147) hx hb dL_ahead_119 (by decide) (fun c119 => ?_) (fun c119 => ?_)
                  ·
                    have c119 : nn ≤ 0 := (nI_leI (a := nn) (b := 0) (by omega) (by omega)).mp c119
                    exfalso; omega
                  ·
                    have c119 : ¬ nn ≤ 0 := fun h9 => c119 ((nI_leI (a := nn) (b := 0) (by omega) (by omega)).mpr h9)
                    refine lv_iload hx hb dL_ahead_122 (lv_at hl 2 rfl) ?_
                    refine lv_bipush (v := 56) hx hb dL_ahead_124 (by decide) ?_
                    refine lv_iload hx hb dL_ahead_126 (lv_at hl 0 rfl) ?_
                    refine lv_isub hx hb dL_ahead_128 ?_
                    refine endI (r := nI (56 - (nt - ff))) (pk_sub (a := 56) (b := nt - ff) (by omega)) ?_
                    refine lv_icmp_gt (tgt := 147) hx hb dL_ahead_129 (by decide) (fun c129 => ?_) (fun c129 => ?_)
                    ·
                      have c129 : (56 - (nt - ff)) < nn := (nI_ltI (a := (56 - (nt - ff))) (b := nn) (by omega) (by omega)).mp c129
                      exfalso; omega
                    ·
                      have c129 : ¬ (56 - (nt - ff)) < nn := fun h9 => c129 ((nI_ltI (a := (56 - (nt - ff))) (b := nn) (by omega) (by omega)).mpr h9)
                      refine lv_iload hx hb dL_ahead_132 (lv_at hl 1 rfl) ?_
                      refine lv_iconst (v := 1) hx hb dL_ahead_134 (by decide) ?_
                      refine lv_icmp_eq (tgt := 143) hx hb dL_ahead_135 (by decide) (fun c135 => ?_) (fun c135 => ?_)
                      ·
                        exact absurd c135 (by decide)
                      ·
                        refine lv_iload hx hb dL_ahead_138 (lv_at hl 1 rfl) ?_
                        refine lv_if_ne (tgt := 147) hx hb dL_ahead_140 (by decide) (fun c140 => ?_) (fun c140 => ?_)
                        ·
                          exact absurd c140 (by decide)
                        ·
                          refine lv_iconst (v := 1) hx hb dL_ahead_143 (by decide) ?_
                          refine lv_goto (tgt := 148) hx hb dL_ahead_144 (by decide) ?_
                          refine lv_istore (lv' := [(4, .int (1)), (9, .int (nI (nt - ff))), (8, .int (0)), (7, .int (nI nn)), (6, .int (nI k)), (5, .int (nI N)), (2, .long (stC (O 0) N K C)), (0, .ref (v 0)), (1, .int (nI w))]) hx hb dL_ahead_148 hl (by decide) rfl (fun ls hl => ?_)
                          refine lv_aload_n hx hb dL_ahead_150 rfl (lv_at hl 7 rfl) ?_
                          refine rdV (As := []) (rest := []) ⟨hx, hb, hml, hown, hts⟩ (c_X9_night l D T v B Op50 g ln unp50 nxp50 pl f0 f1 f2 ) (cwV 0 hts (gC gl_X9_night) rfl rfl rfl (by decide +kernel) ⟨Nat.le_of_ble_eq_true rfl, Nat.le_of_ble_eq_true rfl⟩) hK hP 0 rfl rfl rfl hl.1 rfl (Nat.le_of_ble_eq_true rfl) ⟨by show _ ≤ 25500; omega, by show _ ≤ 153000; omega⟩ dL_ahead_151 ?_
                          refine endI (r := (O 0) 0 0) (by rw [hOp50]) ?_
                          refine endI (r := nI nt) (hn) ?_
                          refine lv_iload hx hb dL_ahead_154 (lv_at hl 3 rfl) ?_
                          refine lv_iadd hx hb dL_ahead_156 ?_
                          refine endI (r := nI (nt + nn)) (nI_add _ _) ?_
                          refine lv_sipush (v := 999) hx hb dL_ahead_157 (by decide) ?_
                          refine lv_icmp_gt (tgt := 273) hx hb dL_ahead_160 (by decide) (fun c160 => ?_) (fun c160 => ?_)
                          ·
                            have c160 : 999 < (nt + nn) := (nI_ltI (a := 999) (b := (nt + nn)) (by omega) (by omega)).mp c160
                            refine lv_iload hx hb dL_ahead_273 (lv_at hl 0 rfl) ?_
                            refine lv_if_eq (tgt := 351) hx hb dL_ahead_275 (by decide) (fun c275 => ?_) (fun c275 => ?_)
                            ·
                              exact absurd c275 (by decide)
                            ·
                              refine lv_aload_n hx hb dL_ahead_278 rfl (lv_at hl 7 rfl) ?_
                              refine lv_iconst (v := 1) hx hb dL_ahead_279 (by decide) ?_
                              refine lv_iload hx hb dL_ahead_280 (lv_at hl 4 rfl) ?_
                              refine lcSi (S := S3) (ws1 := fun u => (WIN T v B u.1 g ln u.2.1 u.2.2 pl f0 f1 f2 : va_W)) (wc1 := fun u => WIN T v B u.1 g ln u.2.1 u.2.2 pl f0 f1 f2) (As := [.ref (v 0), .int (1), .int (nI k)]) (rest := []) ⟨hx, hb, hml, hown, hts⟩ (c_ex_give l hl9 D T aK aV v B Op50 g ln unp50 nxp50 pl f0 f1 f2 k N K C nt hOVp50 hGp50 (by omega) (by rw [hOp50]; exact h8) (by omega) _) (va_cwS 3 hts (gC gl_L_call__) rfl rfl rfl (by decide +kernel) ⟨Nat.le_of_ble_eq_true rfl, Nat.le_of_ble_eq_true rfl⟩) (fun u => Foc.rfl _ _) (Foc.rfl _ _) hC hNC hK hP hD hS hA rfl hl.1 rfl (Nat.le_of_ble_eq_true rfl) ⟨by show _ ≤ 25500; omega, by show _ ≤ 153000; omega⟩ dL_ahead_282 (fun r9 u H locs hr hP hD hS => ?_)
                              obtain ⟨Op282, unp282, nxp282⟩ := u
                              obtain ⟨og, hog⟩ : ∃ o9, o9 = pileClose (O 0) k 3 ((O 0) 0 0) (-1) := ⟨_, rfl⟩
                              have g8 : og 8 k = 3 := by rw [hog]; exact if_pos rfl
                              have g9 : og 9 k = nI nt := by rw [hog]; exact (if_pos rfl).trans hn
                              have g10 : og 10 k = -1 := by rw [hog]; exact if_pos rfl
                              have g00 : og 0 0 = nI nt := by rw [hog]; exact hn
                              obtain ⟨hr, hOp282, hGp282, hup282, htopp282⟩ := hr
                              replace hOp282 : Op282 0 = og := by rw [hog, ← hOp50]; exact hOp282
                              replace hGp282 : GW Op282 unp282 nxp282 f2 := hGp282
                              replace hup282 : 0 < unp282 := hup282
                              replace htopp282 : Op282 (3 + (nxp282 + 7) % 8) = O 0 := by rw [← hOp50]; exact htopp282
                              have hOVp282 : OV (Op282 0) (N) K C (nt) := by rw [hOp282]; exact by rw [hog]; exact hOV.give (by omega) h8
                              have hOIp282 := hOVp282.oi
                              have hunp282 := hGp282.un8
                              replace hr : r9 = nI (nt - ff) := by rw [hr, hOp50, hn, e7]; exact pk_sub (by omega)
                              subst hr
                              have hP : va_P D vwCl (WIN T v B Op282 g ln unp282 nxp282 pl f0 f1 f2) H := hP
                              have hD : va_D A (WIN T v B Op282 g ln unp282 nxp282 pl f0 f1 f2) := hD
                              refine lv_iload hx hb dL_ahead_285 (lv_at hl 1 rfl) ?_
                              refine lv_icmp_ne (tgt := 351) hx hb dL_ahead_287 (by decide) (fun c287 => ?_) (fun c287 => ?_)
                              ·
                                exact absurd rfl c287
                              ·
                                refine lv_aload_n hx hb dL_ahead_290 rfl (lv_at hl 7 rfl) ?_
                                refine lv_bipush (v := 30) hx hb dL_ahead_291 (by decide) ?_
                                refine lv_iload hx hb dL_ahead_293 (lv_at hl 4 rfl) ?_
                                refine lqSi (As := [.ref (v 0), .int (30), .int (nI k)]) (rest := []) ⟨hx, hb, hml, hown, hts⟩ (c_ask_isGivenUp l hl9 D T aK aV v B Op282 g ln unp282 nxp282 pl f0 f1 f2 k N K C nt hOIp282 (by omega) _) (va_cwS 3 hts (gC gl_L_call__) rfl rfl rfl (by decide +kernel) ⟨Nat.le_of_ble_eq_true rfl, Nat.le_of_ble_eq_true rfl⟩) (Foc.rfl _ _) hC hNC hK hP hD hS hA rfl hl.1 rfl (Nat.le_of_ble_eq_true rfl) ⟨by show _ ≤ 25500; omega, by show _ ≤ 153000; omega⟩ dL_ahead_295 (fun H locs hP hD hS => ?_)
                                have hP : va_P D vwCl (WIN T v B Op282 g ln unp282 nxp282 pl f0 f1 f2) H := hP
                                have hD : va_D A (WIN T v B Op282 g ln unp282 nxp282 pl f0 f1 f2) := hD
                                refine endI (r := bI (decide (og 8 k = 3))) (by rw [hOp282]) ?_
                                refine endI (r := 1) (by rw [g8]; rfl) ?_
                                refine lv_iconst (v := 1) hx hb dL_ahead_298 (by decide) ?_
                                refine lv_icmp_ne (tgt := 351) hx hb dL_ahead_299 (by decide) (fun c299 => ?_) (fun c299 => ?_)
                                ·
                                  exact absurd c299 (by decide)
                                ·
                                  refine lv_aload_n hx hb dL_ahead_302 rfl (lv_at hl 7 rfl) ?_
                                  refine lv_bipush (v := 31) hx hb dL_ahead_303 (by decide) ?_
                                  refine lv_iload hx hb dL_ahead_305 (lv_at hl 4 rfl) ?_
                                  refine lqSi (As := [.ref (v 0), .int (31), .int (nI k)]) (rest := []) ⟨hx, hb, hml, hown, hts⟩ (c_ask_closedIn l hl9 D T aK aV v B Op282 g ln unp282 nxp282 pl f0 f1 f2 k N K C nt hOIp282 (by omega) _) (va_cwS 3 hts (gC gl_L_call__) rfl rfl rfl (by decide +kernel) ⟨Nat.le_of_ble_eq_true rfl, Nat.le_of_ble_eq_true rfl⟩) (Foc.rfl _ _) hC hNC hK hP hD hS hA rfl hl.1 rfl (Nat.le_of_ble_eq_true rfl) ⟨by show _ ≤ 25500; omega, by show _ ≤ 153000; omega⟩ dL_ahead_307 (fun H locs hP hD hS => ?_)
                                  have hP : va_P D vwCl (WIN T v B Op282 g ln unp282 nxp282 pl f0 f1 f2) H := hP
                                  have hD : va_D A (WIN T v B Op282 g ln unp282 nxp282 pl f0 f1 f2) := hD
                                  refine endI (r := if og 8 k = 0 then -101 else og 9 k) (by rw [hOp282]) ?_
                                  refine endI (r := nI nt) (by rw [if_neg (by rw [g8]; decide)]; exact g9) ?_
                                  refine lv_aload_n hx hb dL_ahead_310 rfl (lv_at hl 7 rfl) ?_
                                  refine rdV (As := []) (rest := [.int (nI nt)]) ⟨hx, hb, hml, hown, hts⟩ (c_X9_night l D T v B Op282 g ln unp282 nxp282 pl f0 f1 f2 ) (cwV 0 hts (gC gl_X9_night) rfl rfl rfl (by decide +kernel) ⟨Nat.le_of_ble_eq_true rfl, Nat.le_of_ble_eq_true rfl⟩) hK hP 0 rfl rfl rfl hl.1 rfl (Nat.le_of_ble_eq_true rfl) ⟨by show _ ≤ 25500; omega, by show _ ≤ 153000; omega⟩ dL_ahead_311 ?_
                                  refine endI (r := og 0 0) (by rw [hOp282]) ?_
                                  refine endI (r := nI nt) (g00) ?_
                                  refine lv_icmp_ne (tgt := 351) hx hb dL_ahead_314 (by decide) (fun c314 => ?_) (fun c314 => ?_)
                                  ·
                                    exact absurd rfl c314
                                  ·
                                    refine lv_aload_n hx hb dL_ahead_317 rfl (lv_at hl 7 rfl) ?_
                                    refine lv_bipush (v := 32) hx hb dL_ahead_318 (by decide) ?_
                                    refine lv_iload hx hb dL_ahead_320 (lv_at hl 4 rfl) ?_
                                    refine lqSi (As := [.ref (v 0), .int (32), .int (nI k)]) (rest := []) ⟨hx, hb, hml, hown, hts⟩ (c_ask_clerkOf l hl9 D T aK aV v B Op282 g ln unp282 nxp282 pl f0 f1 f2 k N K C nt hOIp282 (by omega) _) (va_cwS 3 hts (gC gl_L_call__) rfl rfl rfl (by decide +kernel) ⟨Nat.le_of_ble_eq_true rfl, Nat.le_of_ble_eq_true rfl⟩) (Foc.rfl _ _) hC hNC hK hP hD hS hA rfl hl.1 rfl (Nat.le_of_ble_eq_true rfl) ⟨by show _ ≤ 25500; omega, by show _ ≤ 153000; omega⟩ dL_ahead_322 (fun H locs hP hD hS => ?_)
                                    have hP : va_P D vwCl (WIN T v B Op282 g ln unp282 nxp282 pl f0 f1 f2) H := hP
                                    have hD : va_D A (WIN T v B Op282 g ln unp282 nxp282 pl f0 f1 f2) := hD
                                    refine endI (r := if og 10 k = -1 then -101 else og 10 k) (by rw [hOp282]) ?_
                                    refine endI (r := -101) (if_pos g10) ?_
                                    refine lv_bipush (v := -101) hx hb dL_ahead_325 (by decide) ?_
                                    refine lv_icmp_ne (tgt := 351) hx hb dL_ahead_327 (by decide) (fun c327 => ?_) (fun c327 => ?_)
                                    ·
                                      exact absurd c327 (by decide)
                                    ·
                                      refine lv_aload_n hx hb dL_ahead_330 rfl (lv_at hl 7 rfl) ?_
                                      refine lqSi (As := [.ref (v 0)]) (rest := []) ⟨hx, hb, hml, hown, hts⟩ (c_L_books l hl9 D T aK aV v B Op282 g ln unp282 nxp282 pl f0 f1 f2 N K C nt hOIp282 hOVp282 (by omega) _) (va_cwS 1 hts (gC gl_L_books) rfl rfl rfl (by decide +kernel) ⟨Nat.le_of_ble_eq_true rfl, Nat.le_of_ble_eq_true rfl⟩) (Foc.rfl _ _) hC hNC hK hP hD hS hA rfl hl.1 rfl (Nat.le_of_ble_eq_true rfl) ⟨by show _ ≤ 25500; omega, by show _ ≤ 153000; omega⟩ dL_ahead_331 (fun H locs hP hD hS => ?_)
                                      have hP : va_P D vwCl (WIN T v B Op282 g ln unp282 nxp282 pl f0 f1 f2) H := hP
                                      have hD : va_D A (WIN T v B Op282 g ln unp282 nxp282 pl f0 f1 f2) := hD
                                      refine lv_if_eq (tgt := 351) hx hb dL_ahead_334 (by decide) (fun c334 => ?_) (fun c334 => ?_)
                                      ·
                                        exact absurd c334 (by decide)
                                      ·
                                        refine lv_aload_n hx hb dL_ahead_337 rfl (lv_at hl 7 rfl) ?_
                                        refine lv_bipush (v := 9) hx hb dL_ahead_338 (by decide) ?_
                                        refine lv_iconst (v := 0) hx hb dL_ahead_340 (by decide) ?_
                                        refine lcSi (S := S3) (ws1 := fun u => (WIN T v B u.1 g ln u.2.1 u.2.2 pl f0 f1 f2 : va_W)) (wc1 := fun u => WIN T v B u.1 g ln u.2.1 u.2.2 pl f0 f1 f2) (As := [.ref (v 0), .int (9), .int (0)]) (rest := []) ⟨hx, hb, hml, hown, hts⟩ (c_ex_undo l hl9 D T aK aV v B Op282 g ln unp282 nxp282 pl f0 f1 f2 N K C nt hGp282 hup282 _) (va_cwS 3 hts (gC gl_L_call__) rfl rfl rfl (by decide +kernel) ⟨Nat.le_of_ble_eq_true rfl, Nat.le_of_ble_eq_true rfl⟩) (fun u => Foc.rfl _ _) (Foc.rfl _ _) hC hNC hK hP hD hS hA rfl hl.1 rfl (Nat.le_of_ble_eq_true rfl) ⟨by show _ ≤ 25500; omega, by show _ ≤ 153000; omega⟩ dL_ahead_341 (fun r9 u H locs hr hP hD hS => ?_)
                                        obtain ⟨Op341, unp341, nxp341⟩ := u
                                        obtain ⟨hr, hOp341, hGp341⟩ := hr
                                        replace hOp341 : Op341 0 = O 0 := hOp341.trans htopp282
                                        replace hGp341 : GW Op341 unp341 nxp341 f2 := hGp341
                                        have hOVp341 : OV (Op341 0) N K C nt := by rw [hOp341]; exact hOV
                                        have hOIp341 := hOVp341.oi
                                        replace hr : r9 = nI (unp282 - 1) := hr
                                        subst hr
                                        have hP : va_P D vwCl (WIN T v B Op341 g ln unp341 nxp341 pl f0 f1 f2) H := hP
                                        have hD : va_D A (WIN T v B Op341 g ln unp341 nxp341 pl f0 f1 f2) := hD
                                        refine lv_if_lt (tgt := 351) hx hb dL_ahead_344 (by decide) (fun c344 => ?_) (fun c344 => ?_)
                                        ·
                                          have c344 : (unp282 - 1) < 0 := (nI_ltI (a := (unp282 - 1)) (b := 0) (by omega) (by omega)).mp c344
                                          exfalso; omega
                                        ·
                                          have c344 : ¬ (unp282 - 1) < 0 := fun h9 => c344 ((nI_ltI (a := (unp282 - 1)) (b := 0) (by omega) (by omega)).mpr h9)
                                          refine lv_iconst (v := 1) hx hb dL_ahead_347 (by decide) ?_
                                          refine lv_goto (tgt := 352) hx hb dL_ahead_348 (by decide) ?_
                                          refine lv_istore (lv' := [(4, .int (1)), (9, .int (nI (nt - ff))), (8, .int (0)), (7, .int (nI nn)), (6, .int (nI k)), (5, .int (nI N)), (2, .long (stC (O 0) N K C)), (0, .ref (v 0)), (1, .int (nI w))]) hx hb dL_ahead_352 hl (by decide) rfl (fun ls hl => ?_)
                                          refine lv_iinc (v := nI (k + 3)) (lv' := [(6, .int (nI (k + 3))), (4, .int (1)), (9, .int (nI (nt - ff))), (8, .int (0)), (7, .int (nI nn)), (5, .int (nI N)), (2, .long (stC (O 0) N K C)), (0, .ref (v 0)), (1, .int (nI w))]) hx hb dL_ahead_354 hl (k := 4) rfl (nI_add _ _) (by decide) rfl (fun ls hl => ?_)
                                          refine lv_goto (tgt := 23) hx hb dL_ahead_357 (by decide) ?_
                                          exact ih23 (k + 3) Op341 unp341 nxp341 _ _ (by omega) (by omega) (by exact hOp341) (by exact hGp341) (by omega) (by omega) _ _ _ hP hD hS (lv_sub hl [0, 5, 1, 6, 7, 8] rfl)
                          ·
                            have c160 : ¬ 999 < (nt + nn) := fun h9 => c160 ((nI_ltI (a := 999) (b := (nt + nn)) (by omega) (by omega)).mpr h9)
                            refine lv_iload hx hb dL_ahead_163 (lv_at hl 3 rfl) ?_
                            refine lv_iconst (v := 1) hx hb dL_ahead_165 (by decide) ?_
                            refine lv_icmp_le (tgt := 216) hx hb dL_ahead_166 (by decide) (fun c166 => ?_) (fun c166 => ?_)
                            ·
                              have c166 : nn ≤ 1 := (nI_leI (a := nn) (b := 1) (by omega) (by omega)).mp c166
                              refine lv_iload hx hb dL_ahead_216 (lv_at hl 0 rfl) ?_
                              refine lv_if_eq (tgt := 270) hx hb dL_ahead_218 (by decide) (fun c218 => ?_) (fun c218 => ?_)
                              ·
                                exact absurd c218 (by decide)
                              ·
                                refine lv_aload_n hx hb dL_ahead_221 rfl (lv_at hl 7 rfl) ?_
                                refine lv_bipush (v := 8) hx hb dL_ahead_222 (by decide) ?_
                                refine lv_iload hx hb dL_ahead_224 (lv_at hl 3 rfl) ?_
                                refine lcSi (S := S3) (ws1 := fun u => (WIN T v B u.1 g ln u.2.1 u.2.2 pl f0 f1 f2 : va_W)) (wc1 := fun u => WIN T v B u.1 g ln u.2.1 u.2.2 pl f0 f1 f2) (As := [.ref (v 0), .int (8), .int (nI nn)]) (rest := []) ⟨hx, hb, hml, hown, hts⟩ (c_ex_ends l hl9 D T aK aV v B Op50 g ln unp50 nxp50 pl f0 f1 f2 nn N K C nt hOVp50 hGp50 (by omega) (by omega) (by omega) _) (va_cwS 3 hts (gC gl_L_call__) rfl rfl rfl (by decide +kernel) ⟨Nat.le_of_ble_eq_true rfl, Nat.le_of_ble_eq_true rfl⟩) (fun u => Foc.rfl _ _) (Foc.rfl _ _) hC hNC hK hP hD hS hA rfl hl.1 rfl (Nat.le_of_ble_eq_true rfl) ⟨by show _ ≤ 25500; omega, by show _ ≤ 153000; omega⟩ dL_ahead_226 (fun r9 u H locs hr hP hD hS => ?_)
                                obtain ⟨Op226, unp226, nxp226⟩ := u
                                obtain ⟨ol, hol⟩ : ∃ o9, o9 = pN N K C (nn) nt (O 0) := ⟨_, rfl⟩
                                obtain ⟨hr, hOp226, hGp226, hup226, htopp226⟩ := hr
                                replace hOp226 : Op226 0 = ol := by rw [hol, ← hOp50]; exact hOp226
                                replace hGp226 : GW Op226 unp226 nxp226 f2 := hGp226
                                replace hup226 : 0 < unp226 := hup226
                                replace htopp226 : Op226 (3 + (nxp226 + 7) % 8) = O 0 := by rw [← hOp50]; exact htopp226
                                have hOVp226 : OV (Op226 0) (N) K C (nt + (nn)) := by rw [hOp226]; exact by rw [hol]; exact hOV.pN (nn) (by omega)
                                have hOIp226 := hOVp226.oi
                                have hunp226 := hGp226.un8
                                obtain ⟨an, han, hr9⟩ := ends_nn (N := N) (K := K) (C := C) (nt := nt) (o := O 0) hOV nn (by omega) (by omega)
                                replace hr : r9 = nI an := by rw [← hr9, ← hOp50]; exact hr
                                subst hr
                                have hP : va_P D vwCl (WIN T v B Op226 g ln unp226 nxp226 pl f0 f1 f2) H := hP
                                have hD : va_D A (WIN T v B Op226 g ln unp226 nxp226 pl f0 f1 f2) := hD
                                refine lv_if_lt (tgt := 270) hx hb dL_ahead_229 (by decide) (fun c229 => ?_) (fun c229 => ?_)
                                ·
                                  have c229 : an < 0 := (nI_ltI (a := an) (b := 0) (by omega) (by omega)).mp c229
                                  exfalso; omega
                                ·
                                  have c229 : ¬ an < 0 := fun h9 => c229 ((nI_ltI (a := an) (b := 0) (by omega) (by omega)).mpr h9)
                                  refine lv_aload_n hx hb dL_ahead_232 rfl (lv_at hl 7 rfl) ?_
                                  refine lv_bipush (v := 27) hx hb dL_ahead_233 (by decide) ?_
                                  refine lv_iload hx hb dL_ahead_235 (lv_at hl 4 rfl) ?_
                                  refine lqSi (As := [.ref (v 0), .int (27), .int (nI k)]) (rest := []) ⟨hx, hb, hml, hown, hts⟩ (c_ask_isWaiting l hl9 D T aK aV v B Op226 g ln unp226 nxp226 pl f0 f1 f2 k N K C (nt + (nn)) hOIp226 (by omega) _) (va_cwS 3 hts (gC gl_L_call__) rfl rfl rfl (by decide +kernel) ⟨Nat.le_of_ble_eq_true rfl, Nat.le_of_ble_eq_true rfl⟩) (Foc.rfl _ _) hC hNC hK hP hD hS hA rfl hl.1 rfl (Nat.le_of_ble_eq_true rfl) ⟨by show _ ≤ 25500; omega, by show _ ≤ 153000; omega⟩ dL_ahead_237 (fun H locs hP hD hS => ?_)
                                  have hP : va_P D vwCl (WIN T v B Op226 g ln unp226 nxp226 pl f0 f1 f2) H := hP
                                  have hD : va_D A (WIN T v B Op226 g ln unp226 nxp226 pl f0 f1 f2) := hD
                                  refine endI (r := bI (decide (ol 8 k = 0))) (by rw [hOp226]) ?_
                                  refine endI (r := 0) (by rw [hol, decide_eq_false u2]; rfl) ?_
                                  refine lv_if_ne (tgt := 270) hx hb dL_ahead_240 (by decide) (fun c240 => ?_) (fun c240 => ?_)
                                  ·
                                    exact absurd c240 (by decide)
                                  ·
                                    refine lv_aload_n hx hb dL_ahead_243 rfl (lv_at hl 7 rfl) ?_
                                    refine lv_bipush (v := 28) hx hb dL_ahead_244 (by decide) ?_
                                    refine lv_iload hx hb dL_ahead_246 (lv_at hl 4 rfl) ?_
                                    refine lqSi (As := [.ref (v 0), .int (28), .int (nI k)]) (rest := []) ⟨hx, hb, hml, hown, hts⟩ (c_ask_isAnswered l hl9 D T aK aV v B Op226 g ln unp226 nxp226 pl f0 f1 f2 k N K C (nt + (nn)) hOIp226 (by omega) _) (va_cwS 3 hts (gC gl_L_call__) rfl rfl rfl (by decide +kernel) ⟨Nat.le_of_ble_eq_true rfl, Nat.le_of_ble_eq_true rfl⟩) (Foc.rfl _ _) hC hNC hK hP hD hS hA rfl hl.1 rfl (Nat.le_of_ble_eq_true rfl) ⟨by show _ ≤ 25500; omega, by show _ ≤ 153000; omega⟩ dL_ahead_248 (fun H locs hP hD hS => ?_)
                                    have hP : va_P D vwCl (WIN T v B Op226 g ln unp226 nxp226 pl f0 f1 f2) H := hP
                                    have hD : va_D A (WIN T v B Op226 g ln unp226 nxp226 pl f0 f1 f2) := hD
                                    refine endI (r := bI (decide (ol 8 k = 1))) (by rw [hOp226]) ?_
                                    refine endI (r := 0) (by rw [hol, decide_eq_false hwA]; rfl) ?_
                                    refine lv_iload hx hb dL_ahead_251 (lv_at hl 2 rfl) ?_
                                    refine lv_icmp_ne (tgt := 270) hx hb dL_ahead_253 (by decide) (fun c253 => ?_) (fun c253 => ?_)
                                    ·
                                      exact absurd c253 (by decide)
                                    ·
                                      refine lv_aload_n hx hb dL_ahead_256 rfl (lv_at hl 7 rfl) ?_
                                      refine lv_bipush (v := 9) hx hb dL_ahead_257 (by decide) ?_
                                      refine lv_iconst (v := 0) hx hb dL_ahead_259 (by decide) ?_
                                      refine lcSi (S := S3) (ws1 := fun u => (WIN T v B u.1 g ln u.2.1 u.2.2 pl f0 f1 f2 : va_W)) (wc1 := fun u => WIN T v B u.1 g ln u.2.1 u.2.2 pl f0 f1 f2) (As := [.ref (v 0), .int (9), .int (0)]) (rest := []) ⟨hx, hb, hml, hown, hts⟩ (c_ex_undo l hl9 D T aK aV v B Op226 g ln unp226 nxp226 pl f0 f1 f2 N K C (nt + (nn)) hGp226 hup226 _) (va_cwS 3 hts (gC gl_L_call__) rfl rfl rfl (by decide +kernel) ⟨Nat.le_of_ble_eq_true rfl, Nat.le_of_ble_eq_true rfl⟩) (fun u => Foc.rfl _ _) (Foc.rfl _ _) hC hNC hK hP hD hS hA rfl hl.1 rfl (Nat.le_of_ble_eq_true rfl) ⟨by show _ ≤ 25500; omega, by show _ ≤ 153000; omega⟩ dL_ahead_260 (fun r9 u H locs hr hP hD hS => ?_)
                                      obtain ⟨Op260, unp260, nxp260⟩ := u
                                      obtain ⟨hr, hOp260, hGp260⟩ := hr
                                      replace hOp260 : Op260 0 = O 0 := hOp260.trans htopp226
                                      replace hGp260 : GW Op260 unp260 nxp260 f2 := hGp260
                                      have hOVp260 : OV (Op260 0) N K C nt := by rw [hOp260]; exact hOV
                                      have hOIp260 := hOVp260.oi
                                      replace hr : r9 = nI (unp226 - 1) := hr
                                      subst hr
                                      have hP : va_P D vwCl (WIN T v B Op260 g ln unp260 nxp260 pl f0 f1 f2) H := hP
                                      have hD : va_D A (WIN T v B Op260 g ln unp260 nxp260 pl f0 f1 f2) := hD
                                      refine lv_if_lt (tgt := 270) hx hb dL_ahead_263 (by decide) (fun c263 => ?_) (fun c263 => ?_)
                                      ·
                                        have c263 : (unp226 - 1) < 0 := (nI_ltI (a := (unp226 - 1)) (b := 0) (by omega) (by omega)).mp c263
                                        exfalso; omega
                                      ·
                                        have c263 : ¬ (unp226 - 1) < 0 := fun h9 => c263 ((nI_ltI (a := (unp226 - 1)) (b := 0) (by omega) (by omega)).mpr h9)
                                        refine lv_iconst (v := 1) hx hb dL_ahead_266 (by decide) ?_
                                        refine lv_goto (tgt := 271) hx hb dL_ahead_267 (by decide) ?_
                                        refine lv_istore (lv' := [(4, .int (1)), (9, .int (nI (nt - ff))), (8, .int (0)), (7, .int (nI nn)), (6, .int (nI k)), (5, .int (nI N)), (2, .long (stC (O 0) N K C)), (0, .ref (v 0)), (1, .int (nI w))]) hx hb dL_ahead_271 hl (by decide) rfl (fun ls hl => ?_)
                                        refine lv_iload hx hb dL_ahead_273 (lv_at hl 0 rfl) ?_
                                        refine lv_if_eq (tgt := 351) hx hb dL_ahead_275 (by decide) (fun c275 => ?_) (fun c275 => ?_)
                                        ·
                                          exact absurd c275 (by decide)
                                        ·
                                          refine lv_aload_n hx hb dL_ahead_278 rfl (lv_at hl 7 rfl) ?_
                                          refine lv_iconst (v := 1) hx hb dL_ahead_279 (by decide) ?_
                                          refine lv_iload hx hb dL_ahead_280 (lv_at hl 4 rfl) ?_
                                          refine lcSi (S := S3) (ws1 := fun u => (WIN T v B u.1 g ln u.2.1 u.2.2 pl f0 f1 f2 : va_W)) (wc1 := fun u => WIN T v B u.1 g ln u.2.1 u.2.2 pl f0 f1 f2) (As := [.ref (v 0), .int (1), .int (nI k)]) (rest := []) ⟨hx, hb, hml, hown, hts⟩ (c_ex_give l hl9 D T aK aV v B Op260 g ln unp260 nxp260 pl f0 f1 f2 k N K C nt hOVp260 hGp260 (by omega) (by rw [hOp260]; exact h8) (by omega) _) (va_cwS 3 hts (gC gl_L_call__) rfl rfl rfl (by decide +kernel) ⟨Nat.le_of_ble_eq_true rfl, Nat.le_of_ble_eq_true rfl⟩) (fun u => Foc.rfl _ _) (Foc.rfl _ _) hC hNC hK hP hD hS hA rfl hl.1 rfl (Nat.le_of_ble_eq_true rfl) ⟨by show _ ≤ 25500; omega, by show _ ≤ 153000; omega⟩ dL_ahead_282 (fun r9 u H locs hr hP hD hS => ?_)
                                          obtain ⟨Op282, unp282, nxp282⟩ := u
                                          obtain ⟨og, hog⟩ : ∃ o9, o9 = pileClose (O 0) k 3 ((O 0) 0 0) (-1) := ⟨_, rfl⟩
                                          have g8 : og 8 k = 3 := by rw [hog]; exact if_pos rfl
                                          have g9 : og 9 k = nI nt := by rw [hog]; exact (if_pos rfl).trans hn
                                          have g10 : og 10 k = -1 := by rw [hog]; exact if_pos rfl
                                          have g00 : og 0 0 = nI nt := by rw [hog]; exact hn
                                          obtain ⟨hr, hOp282, hGp282, hup282, htopp282⟩ := hr
                                          replace hOp282 : Op282 0 = og := by rw [hog, ← hOp260]; exact hOp282
                                          replace hGp282 : GW Op282 unp282 nxp282 f2 := hGp282
                                          replace hup282 : 0 < unp282 := hup282
                                          replace htopp282 : Op282 (3 + (nxp282 + 7) % 8) = O 0 := by rw [← hOp260]; exact htopp282
                                          have hOVp282 : OV (Op282 0) (N) K C (nt) := by rw [hOp282]; exact by rw [hog]; exact hOV.give (by omega) h8
                                          have hOIp282 := hOVp282.oi
                                          have hunp282 := hGp282.un8
                                          replace hr : r9 = nI (nt - ff) := by rw [hr, hOp260, hn, e7]; exact pk_sub (by omega)
                                          subst hr
                                          have hP : va_P D vwCl (WIN T v B Op282 g ln unp282 nxp282 pl f0 f1 f2) H := hP
                                          have hD : va_D A (WIN T v B Op282 g ln unp282 nxp282 pl f0 f1 f2) := hD
                                          refine lv_iload hx hb dL_ahead_285 (lv_at hl 1 rfl) ?_
                                          refine lv_icmp_ne (tgt := 351) hx hb dL_ahead_287 (by decide) (fun c287 => ?_) (fun c287 => ?_)
                                          ·
                                            exact absurd rfl c287
                                          ·
                                            refine lv_aload_n hx hb dL_ahead_290 rfl (lv_at hl 7 rfl) ?_
                                            refine lv_bipush (v := 30) hx hb dL_ahead_291 (by decide) ?_
                                            refine lv_iload hx hb dL_ahead_293 (lv_at hl 4 rfl) ?_
                                            refine lqSi (As := [.ref (v 0), .int (30), .int (nI k)]) (rest := []) ⟨hx, hb, hml, hown, hts⟩ (c_ask_isGivenUp l hl9 D T aK aV v B Op282 g ln unp282 nxp282 pl f0 f1 f2 k N K C nt hOIp282 (by omega) _) (va_cwS 3 hts (gC gl_L_call__) rfl rfl rfl (by decide +kernel) ⟨Nat.le_of_ble_eq_true rfl, Nat.le_of_ble_eq_true rfl⟩) (Foc.rfl _ _) hC hNC hK hP hD hS hA rfl hl.1 rfl (Nat.le_of_ble_eq_true rfl) ⟨by show _ ≤ 25500; omega, by show _ ≤ 153000; omega⟩ dL_ahead_295 (fun H locs hP hD hS => ?_)
                                            have hP : va_P D vwCl (WIN T v B Op282 g ln unp282 nxp282 pl f0 f1 f2) H := hP
                                            have hD : va_D A (WIN T v B Op282 g ln unp282 nxp282 pl f0 f1 f2) := hD
                                            refine endI (r := bI (decide (og 8 k = 3))) (by rw [hOp282]) ?_
                                            refine endI (r := 1) (by rw [g8]; rfl) ?_
                                            refine lv_iconst (v := 1) hx hb dL_ahead_298 (by decide) ?_
                                            refine lv_icmp_ne (tgt := 351) hx hb dL_ahead_299 (by decide) (fun c299 => ?_) (fun c299 => ?_)
                                            ·
                                              exact absurd c299 (by decide)
                                            ·
                                              refine lv_aload_n hx hb dL_ahead_302 rfl (lv_at hl 7 rfl) ?_
                                              refine lv_bipush (v := 31) hx hb dL_ahead_303 (by decide) ?_
                                              refine lv_iload hx hb dL_ahead_305 (lv_at hl 4 rfl) ?_
                                              refine lqSi (As := [.ref (v 0), .int (31), .int (nI k)]) (rest := []) ⟨hx, hb, hml, hown, hts⟩ (c_ask_closedIn l hl9 D T aK aV v B Op282 g ln unp282 nxp282 pl f0 f1 f2 k N K C nt hOIp282 (by omega) _) (va_cwS 3 hts (gC gl_L_call__) rfl rfl rfl (by decide +kernel) ⟨Nat.le_of_ble_eq_true rfl, Nat.le_of_ble_eq_true rfl⟩) (Foc.rfl _ _) hC hNC hK hP hD hS hA rfl hl.1 rfl (Nat.le_of_ble_eq_true rfl) ⟨by show _ ≤ 25500; omega, by show _ ≤ 153000; omega⟩ dL_ahead_307 (fun H locs hP hD hS => ?_)
                                              have hP : va_P D vwCl (WIN T v B Op282 g ln unp282 nxp282 pl f0 f1 f2) H := hP
                                              have hD : va_D A (WIN T v B Op282 g ln unp282 nxp282 pl f0 f1 f2) := hD
                                              refine endI (r := if og 8 k = 0 then -101 else og 9 k) (by rw [hOp282]) ?_
                                              refine endI (r := nI nt) (by rw [if_neg (by rw [g8]; decide)]; exact g9) ?_
                                              refine lv_aload_n hx hb dL_ahead_310 rfl (lv_at hl 7 rfl) ?_
                                              refine rdV (As := []) (rest := [.int (nI nt)]) ⟨hx, hb, hml, hown, hts⟩ (c_X9_night l D T v B Op282 g ln unp282 nxp282 pl f0 f1 f2 ) (cwV 0 hts (gC gl_X9_night) rfl rfl rfl (by decide +kernel) ⟨Nat.le_of_ble_eq_true rfl, Nat.le_of_ble_eq_true rfl⟩) hK hP 0 rfl rfl rfl hl.1 rfl (Nat.le_of_ble_eq_true rfl) ⟨by show _ ≤ 25500; omega, by show _ ≤ 153000; omega⟩ dL_ahead_311 ?_
                                              refine endI (r := og 0 0) (by rw [hOp282]) ?_
                                              refine endI (r := nI nt) (g00) ?_
                                              refine lv_icmp_ne (tgt := 351) hx hb dL_ahead_314 (by decide) (fun c314 => ?_) (fun c314 => ?_)
                                              ·
                                                exact absurd rfl c314
                                              ·
                                                refine lv_aload_n hx hb dL_ahead_317 rfl (lv_at hl 7 rfl) ?_
                                                refine lv_bipush (v := 32) hx hb dL_ahead_318 (by decide) ?_
                                                refine lv_iload hx hb dL_ahead_320 (lv_at hl 4 rfl) ?_
                                                refine lqSi (As := [.ref (v 0), .int (32), .int (nI k)]) (rest := []) ⟨hx, hb, hml, hown, hts⟩ (c_ask_clerkOf l hl9 D T aK aV v B Op282 g ln unp282 nxp282 pl f0 f1 f2 k N K C nt hOIp282 (by omega) _) (va_cwS 3 hts (gC gl_L_call__) rfl rfl rfl (by decide +kernel) ⟨Nat.le_of_ble_eq_true rfl, Nat.le_of_ble_eq_true rfl⟩) (Foc.rfl _ _) hC hNC hK hP hD hS hA rfl hl.1 rfl (Nat.le_of_ble_eq_true rfl) ⟨by show _ ≤ 25500; omega, by show _ ≤ 153000; omega⟩ dL_ahead_322 (fun H locs hP hD hS => ?_)
                                                have hP : va_P D vwCl (WIN T v B Op282 g ln unp282 nxp282 pl f0 f1 f2) H := hP
                                                have hD : va_D A (WIN T v B Op282 g ln unp282 nxp282 pl f0 f1 f2) := hD
                                                refine endI (r := if og 10 k = -1 then -101 else og 10 k) (by rw [hOp282]) ?_
                                                refine endI (r := -101) (if_pos g10) ?_
                                                refine lv_bipush (v := -101) hx hb dL_ahead_325 (by decide) ?_
                                                refine lv_icmp_ne (tgt := 351) hx hb dL_ahead_327 (by decide) (fun c327 => ?_) (fun c327 => ?_)
                                                ·
                                                  exact absurd c327 (by decide)
                                                ·
                                                  refine lv_aload_n hx hb dL_ahead_330 rfl (lv_at hl 7 rfl) ?_
                                                  refine lqSi (As := [.ref (v 0)]) (rest := []) ⟨hx, hb, hml, hown, hts⟩ (c_L_books l hl9 D T aK aV v B Op282 g ln unp282 nxp282 pl f0 f1 f2 N K C nt hOIp282 hOVp282 (by omega) _) (va_cwS 1 hts (gC gl_L_books) rfl rfl rfl (by decide +kernel) ⟨Nat.le_of_ble_eq_true rfl, Nat.le_of_ble_eq_true rfl⟩) (Foc.rfl _ _) hC hNC hK hP hD hS hA rfl hl.1 rfl (Nat.le_of_ble_eq_true rfl) ⟨by show _ ≤ 25500; omega, by show _ ≤ 153000; omega⟩ dL_ahead_331 (fun H locs hP hD hS => ?_)
                                                  have hP : va_P D vwCl (WIN T v B Op282 g ln unp282 nxp282 pl f0 f1 f2) H := hP
                                                  have hD : va_D A (WIN T v B Op282 g ln unp282 nxp282 pl f0 f1 f2) := hD
                                                  refine lv_if_eq (tgt := 351) hx hb dL_ahead_334 (by decide) (fun c334 => ?_) (fun c334 => ?_)
                                                  ·
                                                    exact absurd c334 (by decide)
                                                  ·
                                                    refine lv_aload_n hx hb dL_ahead_337 rfl (lv_at hl 7 rfl) ?_
                                                    refine lv_bipush (v := 9) hx hb dL_ahead_338 (by decide) ?_
                                                    refine lv_iconst (v := 0) hx hb dL_ahead_340 (by decide) ?_
                                                    refine lcSi (S := S3) (ws1 := fun u => (WIN T v B u.1 g ln u.2.1 u.2.2 pl f0 f1 f2 : va_W)) (wc1 := fun u => WIN T v B u.1 g ln u.2.1 u.2.2 pl f0 f1 f2) (As := [.ref (v 0), .int (9), .int (0)]) (rest := []) ⟨hx, hb, hml, hown, hts⟩ (c_ex_undo l hl9 D T aK aV v B Op282 g ln unp282 nxp282 pl f0 f1 f2 N K C nt hGp282 hup282 _) (va_cwS 3 hts (gC gl_L_call__) rfl rfl rfl (by decide +kernel) ⟨Nat.le_of_ble_eq_true rfl, Nat.le_of_ble_eq_true rfl⟩) (fun u => Foc.rfl _ _) (Foc.rfl _ _) hC hNC hK hP hD hS hA rfl hl.1 rfl (Nat.le_of_ble_eq_true rfl) ⟨by show _ ≤ 25500; omega, by show _ ≤ 153000; omega⟩ dL_ahead_341 (fun r9 u H locs hr hP hD hS => ?_)
                                                    obtain ⟨Op341, unp341, nxp341⟩ := u
                                                    obtain ⟨hr, hOp341, hGp341⟩ := hr
                                                    replace hOp341 : Op341 0 = O 0 := hOp341.trans htopp282
                                                    replace hGp341 : GW Op341 unp341 nxp341 f2 := hGp341
                                                    have hOVp341 : OV (Op341 0) N K C nt := by rw [hOp341]; exact hOV
                                                    have hOIp341 := hOVp341.oi
                                                    replace hr : r9 = nI (unp282 - 1) := hr
                                                    subst hr
                                                    have hP : va_P D vwCl (WIN T v B Op341 g ln unp341 nxp341 pl f0 f1 f2) H := hP
                                                    have hD : va_D A (WIN T v B Op341 g ln unp341 nxp341 pl f0 f1 f2) := hD
                                                    refine lv_if_lt (tgt := 351) hx hb dL_ahead_344 (by decide) (fun c344 => ?_) (fun c344 => ?_)
                                                    ·
                                                      have c344 : (unp282 - 1) < 0 := (nI_ltI (a := (unp282 - 1)) (b := 0) (by omega) (by omega)).mp c344
                                                      exfalso; omega
                                                    ·
                                                      have c344 : ¬ (unp282 - 1) < 0 := fun h9 => c344 ((nI_ltI (a := (unp282 - 1)) (b := 0) (by omega) (by omega)).mpr h9)
                                                      refine lv_iconst (v := 1) hx hb dL_ahead_347 (by decide) ?_
                                                      refine lv_goto (tgt := 352) hx hb dL_ahead_348 (by decide) ?_
                                                      refine lv_istore (lv' := [(4, .int (1)), (9, .int (nI (nt - ff))), (8, .int (0)), (7, .int (nI nn)), (6, .int (nI k)), (5, .int (nI N)), (2, .long (stC (O 0) N K C)), (0, .ref (v 0)), (1, .int (nI w))]) hx hb dL_ahead_352 hl (by decide) rfl (fun ls hl => ?_)
                                                      refine lv_iinc (v := nI (k + 3)) (lv' := [(6, .int (nI (k + 3))), (4, .int (1)), (9, .int (nI (nt - ff))), (8, .int (0)), (7, .int (nI nn)), (5, .int (nI N)), (2, .long (stC (O 0) N K C)), (0, .ref (v 0)), (1, .int (nI w))]) hx hb dL_ahead_354 hl (k := 4) rfl (nI_add _ _) (by decide) rfl (fun ls hl => ?_)
                                                      refine lv_goto (tgt := 23) hx hb dL_ahead_357 (by decide) ?_
                                                      exact ih23 (k + 3) Op341 unp341 nxp341 _ _ (by omega) (by omega) (by exact hOp341) (by exact hGp341) (by omega) (by omega) _ _ _ hP hD hS (lv_sub hl [0, 5, 1, 6, 7, 8] rfl)
                            ·
                              have c166 : ¬ nn ≤ 1 := fun h9 => c166 ((nI_leI (a := nn) (b := 1) (by omega) (by omega)).mpr h9)
                              refine lv_iload hx hb dL_ahead_169 (lv_at hl 0 rfl) ?_
                              refine lv_if_eq (tgt := 213) hx hb dL_ahead_171 (by decide) (fun c171 => ?_) (fun c171 => ?_)
                              ·
                                exact absurd c171 (by decide)
                              ·
                                refine lv_aload_n hx hb dL_ahead_174 rfl (lv_at hl 7 rfl) ?_
                                refine lv_bipush (v := 8) hx hb dL_ahead_175 (by decide) ?_
                                refine lv_iload hx hb dL_ahead_177 (lv_at hl 3 rfl) ?_
                                refine lv_iconst (v := 1) hx hb dL_ahead_179 (by decide) ?_
                                refine lv_isub hx hb dL_ahead_180 ?_
                                refine endI (r := nI (nn - 1)) (pk_sub (a := nn) (b := 1) (by omega)) ?_
                                refine lcSi (S := S3) (ws1 := fun u => (WIN T v B u.1 g ln u.2.1 u.2.2 pl f0 f1 f2 : va_W)) (wc1 := fun u => WIN T v B u.1 g ln u.2.1 u.2.2 pl f0 f1 f2) (As := [.ref (v 0), .int (8), .int (nI (nn - 1))]) (rest := []) ⟨hx, hb, hml, hown, hts⟩ (c_ex_ends l hl9 D T aK aV v B Op50 g ln unp50 nxp50 pl f0 f1 f2 (nn - 1) N K C nt hOVp50 hGp50 (by omega) (by omega) (by omega) _) (va_cwS 3 hts (gC gl_L_call__) rfl rfl rfl (by decide +kernel) ⟨Nat.le_of_ble_eq_true rfl, Nat.le_of_ble_eq_true rfl⟩) (fun u => Foc.rfl _ _) (Foc.rfl _ _) hC hNC hK hP hD hS hA rfl hl.1 rfl (Nat.le_of_ble_eq_true rfl) ⟨by show _ ≤ 25500; omega, by show _ ≤ 153000; omega⟩ dL_ahead_181 (fun r9 u H locs hr hP hD hS => ?_)
                                obtain ⟨Op181, unp181, nxp181⟩ := u
                                obtain ⟨oe, hoe⟩ : ∃ o9, o9 = pN N K C (nn - 1) nt (O 0) := ⟨_, rfl⟩
                                obtain ⟨hr, hOp181, hGp181, hup181, htopp181⟩ := hr
                                replace hOp181 : Op181 0 = oe := by rw [hoe, ← hOp50]; exact hOp181
                                replace hGp181 : GW Op181 unp181 nxp181 f2 := hGp181
                                replace hup181 : 0 < unp181 := hup181
                                replace htopp181 : Op181 (3 + (nxp181 + 7) % 8) = O 0 := by rw [← hOp50]; exact htopp181
                                have hOVp181 : OV (Op181 0) (N) K C (nt + (nn - 1)) := by rw [hOp181]; exact by rw [hoe]; exact hOV.pN (nn - 1) (by omega)
                                have hOIp181 := hOVp181.oi
                                have hunp181 := hGp181.un8
                                obtain ⟨an, han, hr9⟩ := ends_nn (N := N) (K := K) (C := C) (nt := nt) (o := O 0) hOV (nn - 1) (by omega) (by omega)
                                replace hr : r9 = nI an := by rw [← hr9, ← hOp50]; exact hr
                                subst hr
                                have hP : va_P D vwCl (WIN T v B Op181 g ln unp181 nxp181 pl f0 f1 f2) H := hP
                                have hD : va_D A (WIN T v B Op181 g ln unp181 nxp181 pl f0 f1 f2) := hD
                                refine lv_if_lt (tgt := 213) hx hb dL_ahead_184 (by decide) (fun c184 => ?_) (fun c184 => ?_)
                                ·
                                  have c184 : an < 0 := (nI_ltI (a := an) (b := 0) (by omega) (by omega)).mp c184
                                  exfalso; omega
                                ·
                                  have c184 : ¬ an < 0 := fun h9 => c184 ((nI_ltI (a := an) (b := 0) (by omega) (by omega)).mpr h9)
                                  refine lv_aload_n hx hb dL_ahead_187 rfl (lv_at hl 7 rfl) ?_
                                  refine lv_bipush (v := 27) hx hb dL_ahead_188 (by decide) ?_
                                  refine lv_iload hx hb dL_ahead_190 (lv_at hl 4 rfl) ?_
                                  refine lqSi (As := [.ref (v 0), .int (27), .int (nI k)]) (rest := []) ⟨hx, hb, hml, hown, hts⟩ (c_ask_isWaiting l hl9 D T aK aV v B Op181 g ln unp181 nxp181 pl f0 f1 f2 k N K C (nt + (nn - 1)) hOIp181 (by omega) _) (va_cwS 3 hts (gC gl_L_call__) rfl rfl rfl (by decide +kernel) ⟨Nat.le_of_ble_eq_true rfl, Nat.le_of_ble_eq_true rfl⟩) (Foc.rfl _ _) hC hNC hK hP hD hS hA rfl hl.1 rfl (Nat.le_of_ble_eq_true rfl) ⟨by show _ ≤ 25500; omega, by show _ ≤ 153000; omega⟩ dL_ahead_192 (fun H locs hP hD hS => ?_)
                                  have hP : va_P D vwCl (WIN T v B Op181 g ln unp181 nxp181 pl f0 f1 f2) H := hP
                                  have hD : va_D A (WIN T v B Op181 g ln unp181 nxp181 pl f0 f1 f2) := hD
                                  refine endI (r := bI (decide (oe 8 k = 0))) (by rw [hOp181]) ?_
                                  refine endI (r := 1) (by rw [hoe, u3 (nn - 1) (by omega)]; rfl) ?_
                                  refine lv_iconst (v := 1) hx hb dL_ahead_195 (by decide) ?_
                                  refine lv_icmp_ne (tgt := 213) hx hb dL_ahead_196 (by decide) (fun c196 => ?_) (fun c196 => ?_)
                                  ·
                                    exact absurd c196 (by decide)
                                  ·
                                    refine lv_aload_n hx hb dL_ahead_199 rfl (lv_at hl 7 rfl) ?_
                                    refine lv_bipush (v := 9) hx hb dL_ahead_200 (by decide) ?_
                                    refine lv_iconst (v := 0) hx hb dL_ahead_202 (by decide) ?_
                                    refine lcSi (S := S3) (ws1 := fun u => (WIN T v B u.1 g ln u.2.1 u.2.2 pl f0 f1 f2 : va_W)) (wc1 := fun u => WIN T v B u.1 g ln u.2.1 u.2.2 pl f0 f1 f2) (As := [.ref (v 0), .int (9), .int (0)]) (rest := []) ⟨hx, hb, hml, hown, hts⟩ (c_ex_undo l hl9 D T aK aV v B Op181 g ln unp181 nxp181 pl f0 f1 f2 N K C (nt + (nn - 1)) hGp181 hup181 _) (va_cwS 3 hts (gC gl_L_call__) rfl rfl rfl (by decide +kernel) ⟨Nat.le_of_ble_eq_true rfl, Nat.le_of_ble_eq_true rfl⟩) (fun u => Foc.rfl _ _) (Foc.rfl _ _) hC hNC hK hP hD hS hA rfl hl.1 rfl (Nat.le_of_ble_eq_true rfl) ⟨by show _ ≤ 25500; omega, by show _ ≤ 153000; omega⟩ dL_ahead_203 (fun r9 u H locs hr hP hD hS => ?_)
                                    obtain ⟨Op203, unp203, nxp203⟩ := u
                                    obtain ⟨hr, hOp203, hGp203⟩ := hr
                                    replace hOp203 : Op203 0 = O 0 := hOp203.trans htopp181
                                    replace hGp203 : GW Op203 unp203 nxp203 f2 := hGp203
                                    have hOVp203 : OV (Op203 0) N K C nt := by rw [hOp203]; exact hOV
                                    have hOIp203 := hOVp203.oi
                                    replace hr : r9 = nI (unp181 - 1) := hr
                                    subst hr
                                    have hP : va_P D vwCl (WIN T v B Op203 g ln unp203 nxp203 pl f0 f1 f2) H := hP
                                    have hD : va_D A (WIN T v B Op203 g ln unp203 nxp203 pl f0 f1 f2) := hD
                                    refine lv_if_lt (tgt := 213) hx hb dL_ahead_206 (by decide) (fun c206 => ?_) (fun c206 => ?_)
                                    ·
                                      have c206 : (unp181 - 1) < 0 := (nI_ltI (a := (unp181 - 1)) (b := 0) (by omega) (by omega)).mp c206
                                      exfalso; omega
                                    ·
                                      have c206 : ¬ (unp181 - 1) < 0 := fun h9 => c206 ((nI_ltI (a := (unp181 - 1)) (b := 0) (by omega) (by omega)).mpr h9)
                                      refine lv_iconst (v := 1) hx hb dL_ahead_209 (by decide) ?_
                                      refine lv_goto (tgt := 214) hx hb dL_ahead_210 (by decide) ?_
                                      refine lv_istore (lv' := [(4, .int (1)), (9, .int (nI (nt - ff))), (8, .int (0)), (7, .int (nI nn)), (6, .int (nI k)), (5, .int (nI N)), (2, .long (stC (O 0) N K C)), (0, .ref (v 0)), (1, .int (nI w))]) hx hb dL_ahead_214 hl (by decide) rfl (fun ls hl => ?_)
                                      refine lv_iload hx hb dL_ahead_216 (lv_at hl 0 rfl) ?_
                                      refine lv_if_eq (tgt := 270) hx hb dL_ahead_218 (by decide) (fun c218 => ?_) (fun c218 => ?_)
                                      ·
                                        exact absurd c218 (by decide)
                                      ·
                                        refine lv_aload_n hx hb dL_ahead_221 rfl (lv_at hl 7 rfl) ?_
                                        refine lv_bipush (v := 8) hx hb dL_ahead_222 (by decide) ?_
                                        refine lv_iload hx hb dL_ahead_224 (lv_at hl 3 rfl) ?_
                                        refine lcSi (S := S3) (ws1 := fun u => (WIN T v B u.1 g ln u.2.1 u.2.2 pl f0 f1 f2 : va_W)) (wc1 := fun u => WIN T v B u.1 g ln u.2.1 u.2.2 pl f0 f1 f2) (As := [.ref (v 0), .int (8), .int (nI nn)]) (rest := []) ⟨hx, hb, hml, hown, hts⟩ (c_ex_ends l hl9 D T aK aV v B Op203 g ln unp203 nxp203 pl f0 f1 f2 nn N K C nt hOVp203 hGp203 (by omega) (by omega) (by omega) _) (va_cwS 3 hts (gC gl_L_call__) rfl rfl rfl (by decide +kernel) ⟨Nat.le_of_ble_eq_true rfl, Nat.le_of_ble_eq_true rfl⟩) (fun u => Foc.rfl _ _) (Foc.rfl _ _) hC hNC hK hP hD hS hA rfl hl.1 rfl (Nat.le_of_ble_eq_true rfl) ⟨by show _ ≤ 25500; omega, by show _ ≤ 153000; omega⟩ dL_ahead_226 (fun r9 u H locs hr hP hD hS => ?_)
                                        obtain ⟨Op226, unp226, nxp226⟩ := u
                                        obtain ⟨ol, hol⟩ : ∃ o9, o9 = pN N K C (nn) nt (O 0) := ⟨_, rfl⟩
                                        obtain ⟨hr, hOp226, hGp226, hup226, htopp226⟩ := hr
                                        replace hOp226 : Op226 0 = ol := by rw [hol, ← hOp203]; exact hOp226
                                        replace hGp226 : GW Op226 unp226 nxp226 f2 := hGp226
                                        replace hup226 : 0 < unp226 := hup226
                                        replace htopp226 : Op226 (3 + (nxp226 + 7) % 8) = O 0 := by rw [← hOp203]; exact htopp226
                                        have hOVp226 : OV (Op226 0) (N) K C (nt + (nn)) := by rw [hOp226]; exact by rw [hol]; exact hOV.pN (nn) (by omega)
                                        have hOIp226 := hOVp226.oi
                                        have hunp226 := hGp226.un8
                                        obtain ⟨an, han, hr9⟩ := ends_nn (N := N) (K := K) (C := C) (nt := nt) (o := O 0) hOV nn (by omega) (by omega)
                                        replace hr : r9 = nI an := by rw [← hr9, ← hOp203]; exact hr
                                        subst hr
                                        have hP : va_P D vwCl (WIN T v B Op226 g ln unp226 nxp226 pl f0 f1 f2) H := hP
                                        have hD : va_D A (WIN T v B Op226 g ln unp226 nxp226 pl f0 f1 f2) := hD
                                        refine lv_if_lt (tgt := 270) hx hb dL_ahead_229 (by decide) (fun c229 => ?_) (fun c229 => ?_)
                                        ·
                                          have c229 : an < 0 := (nI_ltI (a := an) (b := 0) (by omega) (by omega)).mp c229
                                          exfalso; omega
                                        ·
                                          have c229 : ¬ an < 0 := fun h9 => c229 ((nI_ltI (a := an) (b := 0) (by omega) (by omega)).mpr h9)
                                          refine lv_aload_n hx hb dL_ahead_232 rfl (lv_at hl 7 rfl) ?_
                                          refine lv_bipush (v := 27) hx hb dL_ahead_233 (by decide) ?_
                                          refine lv_iload hx hb dL_ahead_235 (lv_at hl 4 rfl) ?_
                                          refine lqSi (As := [.ref (v 0), .int (27), .int (nI k)]) (rest := []) ⟨hx, hb, hml, hown, hts⟩ (c_ask_isWaiting l hl9 D T aK aV v B Op226 g ln unp226 nxp226 pl f0 f1 f2 k N K C (nt + (nn)) hOIp226 (by omega) _) (va_cwS 3 hts (gC gl_L_call__) rfl rfl rfl (by decide +kernel) ⟨Nat.le_of_ble_eq_true rfl, Nat.le_of_ble_eq_true rfl⟩) (Foc.rfl _ _) hC hNC hK hP hD hS hA rfl hl.1 rfl (Nat.le_of_ble_eq_true rfl) ⟨by show _ ≤ 25500; omega, by show _ ≤ 153000; omega⟩ dL_ahead_237 (fun H locs hP hD hS => ?_)
                                          have hP : va_P D vwCl (WIN T v B Op226 g ln unp226 nxp226 pl f0 f1 f2) H := hP
                                          have hD : va_D A (WIN T v B Op226 g ln unp226 nxp226 pl f0 f1 f2) := hD
                                          refine endI (r := bI (decide (ol 8 k = 0))) (by rw [hOp226]) ?_
                                          refine endI (r := 0) (by rw [hol, decide_eq_false u2]; rfl) ?_
                                          refine lv_if_ne (tgt := 270) hx hb dL_ahead_240 (by decide) (fun c240 => ?_) (fun c240 => ?_)
                                          ·
                                            exact absurd c240 (by decide)
                                          ·
                                            refine lv_aload_n hx hb dL_ahead_243 rfl (lv_at hl 7 rfl) ?_
                                            refine lv_bipush (v := 28) hx hb dL_ahead_244 (by decide) ?_
                                            refine lv_iload hx hb dL_ahead_246 (lv_at hl 4 rfl) ?_
                                            refine lqSi (As := [.ref (v 0), .int (28), .int (nI k)]) (rest := []) ⟨hx, hb, hml, hown, hts⟩ (c_ask_isAnswered l hl9 D T aK aV v B Op226 g ln unp226 nxp226 pl f0 f1 f2 k N K C (nt + (nn)) hOIp226 (by omega) _) (va_cwS 3 hts (gC gl_L_call__) rfl rfl rfl (by decide +kernel) ⟨Nat.le_of_ble_eq_true rfl, Nat.le_of_ble_eq_true rfl⟩) (Foc.rfl _ _) hC hNC hK hP hD hS hA rfl hl.1 rfl (Nat.le_of_ble_eq_true rfl) ⟨by show _ ≤ 25500; omega, by show _ ≤ 153000; omega⟩ dL_ahead_248 (fun H locs hP hD hS => ?_)
                                            have hP : va_P D vwCl (WIN T v B Op226 g ln unp226 nxp226 pl f0 f1 f2) H := hP
                                            have hD : va_D A (WIN T v B Op226 g ln unp226 nxp226 pl f0 f1 f2) := hD
                                            refine endI (r := bI (decide (ol 8 k = 1))) (by rw [hOp226]) ?_
                                            refine endI (r := 0) (by rw [hol, decide_eq_false hwA]; rfl) ?_
                                            refine lv_iload hx hb dL_ahead_251 (lv_at hl 2 rfl) ?_
                                            refine lv_icmp_ne (tgt := 270) hx hb dL_ahead_253 (by decide) (fun c253 => ?_) (fun c253 => ?_)
                                            ·
                                              exact absurd c253 (by decide)
                                            ·
                                              refine lv_aload_n hx hb dL_ahead_256 rfl (lv_at hl 7 rfl) ?_
                                              refine lv_bipush (v := 9) hx hb dL_ahead_257 (by decide) ?_
                                              refine lv_iconst (v := 0) hx hb dL_ahead_259 (by decide) ?_
                                              refine lcSi (S := S3) (ws1 := fun u => (WIN T v B u.1 g ln u.2.1 u.2.2 pl f0 f1 f2 : va_W)) (wc1 := fun u => WIN T v B u.1 g ln u.2.1 u.2.2 pl f0 f1 f2) (As := [.ref (v 0), .int (9), .int (0)]) (rest := []) ⟨hx, hb, hml, hown, hts⟩ (c_ex_undo l hl9 D T aK aV v B Op226 g ln unp226 nxp226 pl f0 f1 f2 N K C (nt + (nn)) hGp226 hup226 _) (va_cwS 3 hts (gC gl_L_call__) rfl rfl rfl (by decide +kernel) ⟨Nat.le_of_ble_eq_true rfl, Nat.le_of_ble_eq_true rfl⟩) (fun u => Foc.rfl _ _) (Foc.rfl _ _) hC hNC hK hP hD hS hA rfl hl.1 rfl (Nat.le_of_ble_eq_true rfl) ⟨by show _ ≤ 25500; omega, by show _ ≤ 153000; omega⟩ dL_ahead_260 (fun r9 u H locs hr hP hD hS => ?_)
                                              obtain ⟨Op260, unp260, nxp260⟩ := u
                                              obtain ⟨hr, hOp260, hGp260⟩ := hr
                                              replace hOp260 : Op260 0 = O 0 := hOp260.trans htopp226
                                              replace hGp260 : GW Op260 unp260 nxp260 f2 := hGp260
                                              have hOVp260 : OV (Op260 0) N K C nt := by rw [hOp260]; exact hOV
                                              have hOIp260 := hOVp260.oi
                                              replace hr : r9 = nI (unp226 - 1) := hr
                                              subst hr
                                              have hP : va_P D vwCl (WIN T v B Op260 g ln unp260 nxp260 pl f0 f1 f2) H := hP
                                              have hD : va_D A (WIN T v B Op260 g ln unp260 nxp260 pl f0 f1 f2) := hD
                                              refine lv_if_lt (tgt := 270) hx hb dL_ahead_263 (by decide) (fun c263 => ?_) (fun c263 => ?_)
                                              ·
                                                have c263 : (unp226 - 1) < 0 := (nI_ltI (a := (unp226 - 1)) (b := 0) (by omega) (by omega)).mp c263
                                                exfalso; omega
                                              ·
                                                have c263 : ¬ (unp226 - 1) < 0 := fun h9 => c263 ((nI_ltI (a := (unp226 - 1)) (b := 0) (by omega) (by omega)).mpr h9)
                                                refine lv_iconst (v := 1) hx hb dL_ahead_266 (by decide) ?_
                                                refine lv_goto (tgt := 271) hx hb dL_ahead_267 (by decide) ?_
                                                refine lv_istore (lv' := [(4, .int (1)), (9, .int (nI (nt - ff))), (8, .int (0)), (7, .int (nI nn)), (6, .int (nI k)), (5, .int (nI N)), (2, .long (stC (O 0) N K C)), (0, .ref (v 0)), (1, .int (nI w))]) hx hb dL_ahead_271 hl (by decide) rfl (fun ls hl => ?_)
                                                refine lv_iload hx hb dL_ahead_273 (lv_at hl 0 rfl) ?_
                                                refine lv_if_eq (tgt := 351) hx hb dL_ahead_275 (by decide) (fun c275 => ?_) (fun c275 => ?_)
                                                ·
                                                  exact absurd c275 (by decide)
                                                ·
                                                  refine lv_aload_n hx hb dL_ahead_278 rfl (lv_at hl 7 rfl) ?_
                                                  refine lv_iconst (v := 1) hx hb dL_ahead_279 (by decide) ?_
                                                  refine lv_iload hx hb dL_ahead_280 (lv_at hl 4 rfl) ?_
                                                  refine lcSi (S := S3) (ws1 := fun u => (WIN T v B u.1 g ln u.2.1 u.2.2 pl f0 f1 f2 : va_W)) (wc1 := fun u => WIN T v B u.1 g ln u.2.1 u.2.2 pl f0 f1 f2) (As := [.ref (v 0), .int (1), .int (nI k)]) (rest := []) ⟨hx, hb, hml, hown, hts⟩ (c_ex_give l hl9 D T aK aV v B Op260 g ln unp260 nxp260 pl f0 f1 f2 k N K C nt hOVp260 hGp260 (by omega) (by rw [hOp260]; exact h8) (by omega) _) (va_cwS 3 hts (gC gl_L_call__) rfl rfl rfl (by decide +kernel) ⟨Nat.le_of_ble_eq_true rfl, Nat.le_of_ble_eq_true rfl⟩) (fun u => Foc.rfl _ _) (Foc.rfl _ _) hC hNC hK hP hD hS hA rfl hl.1 rfl (Nat.le_of_ble_eq_true rfl) ⟨by show _ ≤ 25500; omega, by show _ ≤ 153000; omega⟩ dL_ahead_282 (fun r9 u H locs hr hP hD hS => ?_)
                                                  obtain ⟨Op282, unp282, nxp282⟩ := u
                                                  obtain ⟨og, hog⟩ : ∃ o9, o9 = pileClose (O 0) k 3 ((O 0) 0 0) (-1) := ⟨_, rfl⟩
                                                  have g8 : og 8 k = 3 := by rw [hog]; exact if_pos rfl
                                                  have g9 : og 9 k = nI nt := by rw [hog]; exact (if_pos rfl).trans hn
                                                  have g10 : og 10 k = -1 := by rw [hog]; exact if_pos rfl
                                                  have g00 : og 0 0 = nI nt := by rw [hog]; exact hn
                                                  obtain ⟨hr, hOp282, hGp282, hup282, htopp282⟩ := hr
                                                  replace hOp282 : Op282 0 = og := by rw [hog, ← hOp260]; exact hOp282
                                                  replace hGp282 : GW Op282 unp282 nxp282 f2 := hGp282
                                                  replace hup282 : 0 < unp282 := hup282
                                                  replace htopp282 : Op282 (3 + (nxp282 + 7) % 8) = O 0 := by rw [← hOp260]; exact htopp282
                                                  have hOVp282 : OV (Op282 0) (N) K C (nt) := by rw [hOp282]; exact by rw [hog]; exact hOV.give (by omega) h8
                                                  have hOIp282 := hOVp282.oi
                                                  have hunp282 := hGp282.un8
                                                  replace hr : r9 = nI (nt - ff) := by rw [hr, hOp260, hn, e7]; exact pk_sub (by omega)
                                                  subst hr
                                                  have hP : va_P D vwCl (WIN T v B Op282 g ln unp282 nxp282 pl f0 f1 f2) H := hP
                                                  have hD : va_D A (WIN T v B Op282 g ln unp282 nxp282 pl f0 f1 f2) := hD
                                                  refine lv_iload hx hb dL_ahead_285 (lv_at hl 1 rfl) ?_
                                                  refine lv_icmp_ne (tgt := 351) hx hb dL_ahead_287 (by decide) (fun c287 => ?_) (fun c287 => ?_)
                                                  ·
                                                    exact absurd rfl c287
                                                  ·
                                                    refine lv_aload_n hx hb dL_ahead_290 rfl (lv_at hl 7 rfl) ?_
                                                    refine lv_bipush (v := 30) hx hb dL_ahead_291 (by decide) ?_
                                                    refine lv_iload hx hb dL_ahead_293 (lv_at hl 4 rfl) ?_
                                                    refine lqSi (As := [.ref (v 0), .int (30), .int (nI k)]) (rest := []) ⟨hx, hb, hml, hown, hts⟩ (c_ask_isGivenUp l hl9 D T aK aV v B Op282 g ln unp282 nxp282 pl f0 f1 f2 k N K C nt hOIp282 (by omega) _) (va_cwS 3 hts (gC gl_L_call__) rfl rfl rfl (by decide +kernel) ⟨Nat.le_of_ble_eq_true rfl, Nat.le_of_ble_eq_true rfl⟩) (Foc.rfl _ _) hC hNC hK hP hD hS hA rfl hl.1 rfl (Nat.le_of_ble_eq_true rfl) ⟨by show _ ≤ 25500; omega, by show _ ≤ 153000; omega⟩ dL_ahead_295 (fun H locs hP hD hS => ?_)
                                                    have hP : va_P D vwCl (WIN T v B Op282 g ln unp282 nxp282 pl f0 f1 f2) H := hP
                                                    have hD : va_D A (WIN T v B Op282 g ln unp282 nxp282 pl f0 f1 f2) := hD
                                                    refine endI (r := bI (decide (og 8 k = 3))) (by rw [hOp282]) ?_
                                                    refine endI (r := 1) (by rw [g8]; rfl) ?_
                                                    refine lv_iconst (v := 1) hx hb dL_ahead_298 (by decide) ?_
                                                    refine lv_icmp_ne (tgt := 351) hx hb dL_ahead_299 (by decide) (fun c299 => ?_) (fun c299 => ?_)
                                                    ·
                                                      exact absurd c299 (by decide)
                                                    ·
                                                      refine lv_aload_n hx hb dL_ahead_302 rfl (lv_at hl 7 rfl) ?_
                                                      refine lv_bipush (v := 31) hx hb dL_ahead_303 (by decide) ?_
                                                      refine lv_iload hx hb dL_ahead_305 (lv_at hl 4 rfl) ?_
                                                      refine lqSi (As := [.ref (v 0), .int (31), .int (nI k)]) (rest := []) ⟨hx, hb, hml, hown, hts⟩ (c_ask_closedIn l hl9 D T aK aV v B Op282 g ln unp282 nxp282 pl f0 f1 f2 k N K C nt hOIp282 (by omega) _) (va_cwS 3 hts (gC gl_L_call__) rfl rfl rfl (by decide +kernel) ⟨Nat.le_of_ble_eq_true rfl, Nat.le_of_ble_eq_true rfl⟩) (Foc.rfl _ _) hC hNC hK hP hD hS hA rfl hl.1 rfl (Nat.le_of_ble_eq_true rfl) ⟨by show _ ≤ 25500; omega, by show _ ≤ 153000; omega⟩ dL_ahead_307 (fun H locs hP hD hS => ?_)
                                                      have hP : va_P D vwCl (WIN T v B Op282 g ln unp282 nxp282 pl f0 f1 f2) H := hP
                                                      have hD : va_D A (WIN T v B Op282 g ln unp282 nxp282 pl f0 f1 f2) := hD
                                                      refine endI (r := if og 8 k = 0 then -101 else og 9 k) (by rw [hOp282]) ?_
                                                      refine endI (r := nI nt) (by rw [if_neg (by rw [g8]; decide)]; exact g9) ?_
                                                      refine lv_aload_n hx hb dL_ahead_310 rfl (lv_at hl 7 rfl) ?_
                                                      refine rdV (As := []) (rest := [.int (nI nt)]) ⟨hx, hb, hml, hown, hts⟩ (c_X9_night l D T v B Op282 g ln unp282 nxp282 pl f0 f1 f2 ) (cwV 0 hts (gC gl_X9_night) rfl rfl rfl (by decide +kernel) ⟨Nat.le_of_ble_eq_true rfl, Nat.le_of_ble_eq_true rfl⟩) hK hP 0 rfl rfl rfl hl.1 rfl (Nat.le_of_ble_eq_true rfl) ⟨by show _ ≤ 25500; omega, by show _ ≤ 153000; omega⟩ dL_ahead_311 ?_
                                                      refine endI (r := og 0 0) (by rw [hOp282]) ?_
                                                      refine endI (r := nI nt) (g00) ?_
                                                      refine lv_icmp_ne (tgt := 351) hx hb dL_ahead_314 (by decide) (fun c314 => ?_) (fun c314 => ?_)
                                                      ·
                                                        exact absurd rfl c314
                                                      ·
                                                        refine lv_aload_n hx hb dL_ahead_317 rfl (lv_at hl 7 rfl) ?_
                                                        refine lv_bipush (v := 32) hx hb dL_ahead_318 (by decide) ?_
                                                        refine lv_iload hx hb dL_ahead_320 (lv_at hl 4 rfl) ?_
                                                        refine lqSi (As := [.ref (v 0), .int (32), .int (nI k)]) (rest := []) ⟨hx, hb, hml, hown, hts⟩ (c_ask_clerkOf l hl9 D T aK aV v B Op282 g ln unp282 nxp282 pl f0 f1 f2 k N K C nt hOIp282 (by omega) _) (va_cwS 3 hts (gC gl_L_call__) rfl rfl rfl (by decide +kernel) ⟨Nat.le_of_ble_eq_true rfl, Nat.le_of_ble_eq_true rfl⟩) (Foc.rfl _ _) hC hNC hK hP hD hS hA rfl hl.1 rfl (Nat.le_of_ble_eq_true rfl) ⟨by show _ ≤ 25500; omega, by show _ ≤ 153000; omega⟩ dL_ahead_322 (fun H locs hP hD hS => ?_)
                                                        have hP : va_P D vwCl (WIN T v B Op282 g ln unp282 nxp282 pl f0 f1 f2) H := hP
                                                        have hD : va_D A (WIN T v B Op282 g ln unp282 nxp282 pl f0 f1 f2) := hD
                                                        refine endI (r := if og 10 k = -1 then -101 else og 10 k) (by rw [hOp282]) ?_
                                                        refine endI (r := -101) (if_pos g10) ?_
                                                        refine lv_bipush (v := -101) hx hb dL_ahead_325 (by decide) ?_
                                                        refine lv_icmp_ne (tgt := 351) hx hb dL_ahead_327 (by decide) (fun c327 => ?_) (fun c327 => ?_)
                                                        ·
                                                          exact absurd c327 (by decide)
                                                        ·
                                                          refine lv_aload_n hx hb dL_ahead_330 rfl (lv_at hl 7 rfl) ?_
                                                          refine lqSi (As := [.ref (v 0)]) (rest := []) ⟨hx, hb, hml, hown, hts⟩ (c_L_books l hl9 D T aK aV v B Op282 g ln unp282 nxp282 pl f0 f1 f2 N K C nt hOIp282 hOVp282 (by omega) _) (va_cwS 1 hts (gC gl_L_books) rfl rfl rfl (by decide +kernel) ⟨Nat.le_of_ble_eq_true rfl, Nat.le_of_ble_eq_true rfl⟩) (Foc.rfl _ _) hC hNC hK hP hD hS hA rfl hl.1 rfl (Nat.le_of_ble_eq_true rfl) ⟨by show _ ≤ 25500; omega, by show _ ≤ 153000; omega⟩ dL_ahead_331 (fun H locs hP hD hS => ?_)
                                                          have hP : va_P D vwCl (WIN T v B Op282 g ln unp282 nxp282 pl f0 f1 f2) H := hP
                                                          have hD : va_D A (WIN T v B Op282 g ln unp282 nxp282 pl f0 f1 f2) := hD
                                                          refine lv_if_eq (tgt := 351) hx hb dL_ahead_334 (by decide) (fun c334 => ?_) (fun c334 => ?_)
                                                          ·
                                                            exact absurd c334 (by decide)
                                                          ·
                                                            refine lv_aload_n hx hb dL_ahead_337 rfl (lv_at hl 7 rfl) ?_
                                                            refine lv_bipush (v := 9) hx hb dL_ahead_338 (by decide) ?_
                                                            refine lv_iconst (v := 0) hx hb dL_ahead_340 (by decide) ?_
                                                            refine lcSi (S := S3) (ws1 := fun u => (WIN T v B u.1 g ln u.2.1 u.2.2 pl f0 f1 f2 : va_W)) (wc1 := fun u => WIN T v B u.1 g ln u.2.1 u.2.2 pl f0 f1 f2) (As := [.ref (v 0), .int (9), .int (0)]) (rest := []) ⟨hx, hb, hml, hown, hts⟩ (c_ex_undo l hl9 D T aK aV v B Op282 g ln unp282 nxp282 pl f0 f1 f2 N K C nt hGp282 hup282 _) (va_cwS 3 hts (gC gl_L_call__) rfl rfl rfl (by decide +kernel) ⟨Nat.le_of_ble_eq_true rfl, Nat.le_of_ble_eq_true rfl⟩) (fun u => Foc.rfl _ _) (Foc.rfl _ _) hC hNC hK hP hD hS hA rfl hl.1 rfl (Nat.le_of_ble_eq_true rfl) ⟨by show _ ≤ 25500; omega, by show _ ≤ 153000; omega⟩ dL_ahead_341 (fun r9 u H locs hr hP hD hS => ?_)
                                                            obtain ⟨Op341, unp341, nxp341⟩ := u
                                                            obtain ⟨hr, hOp341, hGp341⟩ := hr
                                                            replace hOp341 : Op341 0 = O 0 := hOp341.trans htopp282
                                                            replace hGp341 : GW Op341 unp341 nxp341 f2 := hGp341
                                                            have hOVp341 : OV (Op341 0) N K C nt := by rw [hOp341]; exact hOV
                                                            have hOIp341 := hOVp341.oi
                                                            replace hr : r9 = nI (unp282 - 1) := hr
                                                            subst hr
                                                            have hP : va_P D vwCl (WIN T v B Op341 g ln unp341 nxp341 pl f0 f1 f2) H := hP
                                                            have hD : va_D A (WIN T v B Op341 g ln unp341 nxp341 pl f0 f1 f2) := hD
                                                            refine lv_if_lt (tgt := 351) hx hb dL_ahead_344 (by decide) (fun c344 => ?_) (fun c344 => ?_)
                                                            ·
                                                              have c344 : (unp282 - 1) < 0 := (nI_ltI (a := (unp282 - 1)) (b := 0) (by omega) (by omega)).mp c344
                                                              exfalso; omega
                                                            ·
                                                              have c344 : ¬ (unp282 - 1) < 0 := fun h9 => c344 ((nI_ltI (a := (unp282 - 1)) (b := 0) (by omega) (by omega)).mpr h9)
                                                              refine lv_iconst (v := 1) hx hb dL_ahead_347 (by decide) ?_
                                                              refine lv_goto (tgt := 352) hx hb dL_ahead_348 (by decide) ?_
                                                              refine lv_istore (lv' := [(4, .int (1)), (9, .int (nI (nt - ff))), (8, .int (0)), (7, .int (nI nn)), (6, .int (nI k)), (5, .int (nI N)), (2, .long (stC (O 0) N K C)), (0, .ref (v 0)), (1, .int (nI w))]) hx hb dL_ahead_352 hl (by decide) rfl (fun ls hl => ?_)
                                                              refine lv_iinc (v := nI (k + 3)) (lv' := [(6, .int (nI (k + 3))), (4, .int (1)), (9, .int (nI (nt - ff))), (8, .int (0)), (7, .int (nI nn)), (5, .int (nI N)), (2, .long (stC (O 0) N K C)), (0, .ref (v 0)), (1, .int (nI w))]) hx hb dL_ahead_354 hl (k := 4) rfl (nI_add _ _) (by decide) rfl (fun ls hl => ?_)
                                                              refine lv_goto (tgt := 23) hx hb dL_ahead_357 (by decide) ?_
                                                              exact ih23 (k + 3) Op341 unp341 nxp341 _ _ (by omega) (by omega) (by exact hOp341) (by exact hGp341) (by omega) (by omega) _ _ _ hP hD hS (lv_sub hl [0, 5, 1, 6, 7, 8] rfl)
                ·
                  exact absurd c63 (by decide)
            ·
              refine lv_aload_n hx hb dL_ahead_35 rfl (lv_at hl 4 rfl) ?_
              refine lv_bipush (v := 41) hx hb dL_ahead_36 (by decide) ?_
              refine lv_iload hx hb dL_ahead_38 (lv_at hl 0 rfl) ?_
              refine lqSi (As := [.ref (v 0), .int (41), .int (nI k)]) (rest := []) ⟨hx, hb, hml, hown, hts⟩ (c_ask_bad41s l hl9 D T aK aV v B Oa g ln una nxa pl f0 f1 f2 k N K C nt hOIa (by omega) (by rw [hOa]; exact h8) (by omega) _) (va_cwS 3 hts (gC gl_L_call__) rfl rfl rfl (by decide +kernel) ⟨Nat.le_of_ble_eq_true rfl, Nat.le_of_ble_eq_true rfl⟩) (Foc.rfl _ _) hC hNC hK hP hD hS hA rfl hl.1 rfl (Nat.le_of_ble_eq_true rfl) ⟨by show _ ≤ 25500; omega, by show _ ≤ 153000; omega⟩ dL_ahead_40 (fun H locs hP hD hS => ?_)
              have hP : va_P D vwCl (WIN T v B Oa g ln una nxa pl f0 f1 f2) H := hP
              have hD : va_D A (WIN T v B Oa g ln una nxa pl f0 f1 f2) := hD
              refine lv_istore (lv' := [(7, .int (-102)), (6, .int (nI k)), (5, .int (nI N)), (4, .int (1)), (2, .long (stC (O 0) N K C)), (0, .ref (v 0)), (1, .int (nI w))]) hx hb dL_ahead_43 hl (by decide) rfl (fun ls hl => ?_)
              refine lv_aload_n hx hb dL_ahead_45 rfl (lv_at hl 5 rfl) ?_
              refine lv_bipush (v := 42) hx hb dL_ahead_46 (by decide) ?_
              refine lv_iload hx hb dL_ahead_48 (lv_at hl 1 rfl) ?_
              refine lqSi (As := [.ref (v 0), .int (42), .int (nI k)]) (rest := []) ⟨hx, hb, hml, hown, hts⟩ (c_ask_bad42s l hl9 D T aK aV v B Oa g ln una nxa pl f0 f1 f2 k N K C nt hOIa (by omega) (by rw [hOa]; exact h8) (by omega) _) (va_cwS 3 hts (gC gl_L_call__) rfl rfl rfl (by decide +kernel) ⟨Nat.le_of_ble_eq_true rfl, Nat.le_of_ble_eq_true rfl⟩) (Foc.rfl _ _) hC hNC hK hP hD hS hA rfl hl.1 rfl (Nat.le_of_ble_eq_true rfl) ⟨by show _ ≤ 25500; omega, by show _ ≤ 153000; omega⟩ dL_ahead_50 (fun H locs hP hD hS => ?_)
              have hP : va_P D vwCl (WIN T v B Oa g ln una nxa pl f0 f1 f2) H := hP
              have hD : va_D A (WIN T v B Oa g ln una nxa pl f0 f1 f2) := hD
              refine lv_istore (lv' := [(8, .int (-102)), (7, .int (-102)), (6, .int (nI k)), (5, .int (nI N)), (4, .int (1)), (2, .long (stC (O 0) N K C)), (0, .ref (v 0)), (1, .int (nI w))]) hx hb dL_ahead_53 hl (by decide) rfl (fun ls hl => ?_)
              refine lv_aload_n hx hb dL_ahead_55 rfl (lv_at hl 6 rfl) ?_
              refine lv_bipush (v := 27) hx hb dL_ahead_56 (by decide) ?_
              refine lv_iload hx hb dL_ahead_58 (lv_at hl 2 rfl) ?_
              refine lqSi (As := [.ref (v 0), .int (27), .int (nI k)]) (rest := []) ⟨hx, hb, hml, hown, hts⟩ (c_ask_isWaiting l hl9 D T aK aV v B Oa g ln una nxa pl f0 f1 f2 k N K C nt hOIa (by omega) _) (va_cwS 3 hts (gC gl_L_call__) rfl rfl rfl (by decide +kernel) ⟨Nat.le_of_ble_eq_true rfl, Nat.le_of_ble_eq_true rfl⟩) (Foc.rfl _ _) hC hNC hK hP hD hS hA rfl hl.1 rfl (Nat.le_of_ble_eq_true rfl) ⟨by show _ ≤ 25500; omega, by show _ ≤ 153000; omega⟩ dL_ahead_60 (fun H locs hP hD hS => ?_)
              have hP : va_P D vwCl (WIN T v B Oa g ln una nxa pl f0 f1 f2) H := hP
              have hD : va_D A (WIN T v B Oa g ln una nxa pl f0 f1 f2) := hD
              refine endI (r := bI (decide ((O 0) 8 k = 0))) (by rw [hOa]) ?_
              refine endI (r := 0) (by rw [decide_eq_false h8]; rfl) ?_
              refine lv_if_ne (tgt := 102) hx hb dL_ahead_63 (by decide) (fun c63 => ?_) (fun c63 => ?_)
              ·
                exact absurd c63 (by decide)
              ·
                refine lv_iload hx hb dL_ahead_66 (lv_at hl 1 rfl) ?_
                refine lv_bipush (v := -102) hx hb dL_ahead_68 (by decide) ?_
                refine lv_icmp_ne (tgt := 96) hx hb dL_ahead_70 (by decide) (fun c70 => ?_) (fun c70 => ?_)
                ·
                  exact absurd c70 (by decide)
                ·
                  refine lv_iload hx hb dL_ahead_73 (lv_at hl 0 rfl) ?_
                  refine lv_bipush (v := -102) hx hb dL_ahead_75 (by decide) ?_
                  refine lv_icmp_ne (tgt := 96) hx hb dL_ahead_77 (by decide) (fun c77 => ?_) (fun c77 => ?_)
                  ·
                    exact absurd c77 (by decide)
                  ·
                    refine lv_aload_n hx hb dL_ahead_80 rfl (lv_at hl 6 rfl) ?_
                    refine lv_iconst (v := 1) hx hb dL_ahead_81 (by decide) ?_
                    refine lv_iload hx hb dL_ahead_82 (lv_at hl 2 rfl) ?_
                    refine lqSi (As := [.ref (v 0), .int (1), .int (nI k)]) (rest := []) ⟨hx, hb, hml, hown, hts⟩ (c_ask_bad1 l hl9 D T aK aV v B Oa g ln una nxa pl f0 f1 f2 k N K C nt hOIa (by omega) (by rw [hOa]; exact h8) hGa.un8 hGa.nx8 _) (va_cwS 3 hts (gC gl_L_call__) rfl rfl rfl (by decide +kernel) ⟨Nat.le_of_ble_eq_true rfl, Nat.le_of_ble_eq_true rfl⟩) (Foc.rfl _ _) hC hNC hK hP hD hS hA rfl hl.1 rfl (Nat.le_of_ble_eq_true rfl) ⟨by show _ ≤ 25500; omega, by show _ ≤ 153000; omega⟩ dL_ahead_84 (fun H locs hP hD hS => ?_)
                    have hP : va_P D vwCl (WIN T v B Oa g ln una nxa pl f0 f1 f2) H := hP
                    have hD : va_D A (WIN T v B Oa g ln una nxa pl f0 f1 f2) := hD
                    refine lv_bipush (v := -102) hx hb dL_ahead_87 (by decide) ?_
                    refine lv_icmp_ne (tgt := 96) hx hb dL_ahead_89 (by decide) (fun c89 => ?_) (fun c89 => ?_)
                    ·
                      exact absurd c89 (by decide)
                    ·
                      refine lv_iconst (v := 1) hx hb dL_ahead_92 (by decide) ?_
                      refine lv_goto (tgt := 97) hx hb dL_ahead_93 (by decide) ?_
                      refine lv_istore (lv' := [(4, .int (1)), (8, .int (-102)), (7, .int (-102)), (6, .int (nI k)), (5, .int (nI N)), (2, .long (stC (O 0) N K C)), (0, .ref (v 0)), (1, .int (nI w))]) hx hb dL_ahead_97 hl (by decide) rfl (fun ls hl => ?_)
                      refine lv_goto (tgt := 354) hx hb dL_ahead_99 (by decide) ?_
                      refine lv_iinc (v := nI (k + 3)) (lv' := [(6, .int (nI (k + 3))), (4, .int (1)), (8, .int (-102)), (7, .int (-102)), (5, .int (nI N)), (2, .long (stC (O 0) N K C)), (0, .ref (v 0)), (1, .int (nI w))]) hx hb dL_ahead_354 hl (k := 3) rfl (nI_add _ _) (by decide) rfl (fun ls hl => ?_)
                      refine lv_goto (tgt := 23) hx hb dL_ahead_357 (by decide) ?_
                      exact ih23 (k + 3) Oa una nxa _ _ (by omega) (by omega) (by exact hOa) (by exact hGa) (by omega) (by omega) _ _ _ hP hD hS (lv_sub hl [0, 4, 1, 5, 6, 7] rfl)
    exact L23 _ ((w % 2 ^ 8) % 3) O un nx _ _ (Nat.lt_succ_self _) (by omega) (by rfl) (by exact hG) (by omega) (by omega) _ _ _ hP hD hS (lv_sub hl [0, 1, 2, 3, 4, 5] rfl)
  exact hgo _ _ hP hS
