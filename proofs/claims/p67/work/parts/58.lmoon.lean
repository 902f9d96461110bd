/-! the moon, asked -/
def moonN (w nt q : Nat) : Nat := if q < 3 then w / 2 ^ (3 * q) % 65536 % 1900 else nt + q
theorem moonN_lt {w nt q : Nat} (hn : nt ≤ 999) (hq : q < 30) : moonN w nt q < 1900 := by
  unfold moonN
  split
  · exact Nat.mod_lt _ (by decide)
  · omega
theorem nI_shr {w k : Nat} (hw : w < 2 ^ 31) (hk : k < 32) : nI w >>> (nI k &&& 31) = nI (w / 2 ^ k) :=
  pk_shrN hw _ k ((by decide +kernel : ∀ k, k < 32 → ((nI k &&& 31 : Int32).toBitVec.smod 32).toNat = k) k hk)
theorem nI_and (w k : Nat) (hw : w < 2 ^ 31) (hk : k < 31) : nI w &&& nI (2 ^ k - 1) = nI (w % 2 ^ k) :=
  pk_andN (by omega) k ((by decide +kernel : ∀ k, k < 31 → ((nI (2 ^ k - 1)).toBitVec.toNat = 2 ^ k - 1)) k hk)
theorem moon_q {w q : Nat} (hw : w < 2 ^ 31) (hq : q < 3) : ((nI w >>> (nI (3 * q) &&& 31)) &&& 65535) - ((nI w >>> (nI (3 * q) &&& 31)) &&& 65535) / 1900 * 1900 = nI (w / 2 ^ (3 * q) % 65536 % 1900) := by
  rw [nI_shr hw (by omega), show (65535 : Int32) = nI (2 ^ 16 - 1) from rfl, nI_and _ 16 (Nat.lt_of_le_of_lt (Nat.div_le_self _ _) hw) (by decide)]
  exact pk_rem (d := 1900) (by have := Nat.mod_lt (w / 2 ^ (3 * q)) (show 0 < 2 ^ 16 by decide); omega) (by decide) (by decide)
theorem light28 (n : Nat) : lightN (n + 28) = lightN n := by
  unfold lightN; rw [Nat.add_mod_right]
theorem tide14 (n : Nat) : tideN (n + 14) = tideN n := by
  unfold tideN; rw [show (n + 14) % 28 % 14 = n % 28 % 14 by omega]
theorem light_mul (n z : Nat) : lightN n * (10 - z) < 2 ^ 31 := by
  have h1 := lightN_le n
  have h2 : lightN n * (10 - z) ≤ 14 * 10 := Nat.mul_le_mul h1 (by omega)
  omega
theorem visN (n : Nat) {z : Nat} (hz : z ≤ 9) : visI n (nI z) = nI (lightN n * (10 - z) / 10) := by
  unfold visI
  rw [show (10 : Int32) - nI z = nI (10 - z) from pk_sub (a := 10) (by omega), pk_mul]
  exact pk_div (d := 10) (light_mul n z) (by decide) (by decide)
theorem vis_le (n : Nat) {z : Nat} (hz : z ≤ 9) : lightN n * (10 - z) / 10 ≤ lightN n := by
  have h2 : lightN n * (10 - z) ≤ lightN n * 10 := Nat.mul_le_mul (Nat.le_refl _) (by omega)
  omega
def lkL (f : Nat → Int32) (q b : Nat) : Nat := if f b < f q then q else b
theorem likeC_L (f : Nat → Int32) : (likeC f).1 = iter (lkL f) 4 0 0 := by
  have h0 : iter (lkL f) 4 0 0 = iter (lkL f) 3 1 0 := by
    show iter (lkL f) 3 1 (lkL f 0 0) = _
    rw [show lkL f 0 0 = 0 from by unfold lkL; split <;> rfl]
  rw [h0]
  have key : ∀ (n i : Nat) (b : Nat) , (iter (fun q b => if b.2 < f q then (q, f q) else b) n i (b, f b)).1 = iter (lkL f) n i b := by
    intro n
    induction n with
    | zero => intro i b; rfl
    | succ n ih =>
      intro i b
      show (iter _ n (i + 1) (if f b < f i then (i, f i) else (b, f b))).1 = iter (lkL f) n (i + 1) (lkL f i b)
      unfold lkL
      by_cases h : f b < f i
      · rw [if_pos h, if_pos h]; exact ih (i + 1) i
      · rw [if_neg h, if_neg h]; exact ih (i + 1) b
  exact key 3 1 0

set_option maxHeartbeats 8000000 in
set_option maxRecDepth 100000 in
theorem c_L_moon (l : Launch) (hl9 : l.stackTraces = false) (D : va_G) (T : Nat → ClassId) (aK aV : Nat → Nat) (v : Nat → Nat) (B : Nat → Nat → Nat) (O : Nat → Nat → Nat → Int32) (g : CSt) (ln un nx pl : Nat) (f0 f1 f2 : Nat → Int32) (w : Nat)  (N K C nt : Nat) (hOI : OI (O 0) N K C nt) (hw : w < 2 ^ 31) (hcl : ∀ j, j < C → ∃ z, z ≤ 9 ∧ (O 0) 1 j = nI z) (hnt2 : nt ≤ 999) (sz : Nat) : Met l yL_moon wsL_moon ({ frames := 12, cells := 6000, slots := 36000, locals := 265 } : Room) (va_Pc [.ref (v 0), .int (nI w)] (LWP D T aK aV (WIN T v B O g ln un nx pl f0 f1 f2) sz)) (va_Qi (fun r9 (_ : Unit) => r9 = 1) (fun _ t => QS D T (va_A (WIN T v B O g ln un nx pl f0 f1 f2) sz) (WIN T v B O g ln un nx pl f0 f1 f2) t) (va_A (WIN T v B O g ln un nx pl f0 f1 f2) sz)) 6000 36000 (va_A (WIN T v B O g ln un nx pl f0 f1 f2) sz) := by
  refine metQi (cc := cL_moon) (maxL := 11) (ty := .boolean) (by decide) rfl (rfl) (Nat.le_of_ble_eq_true rfl) ?_
  intro p e s m args below meth c Q ls A hx hb hml hown hts hNC hC hP hK hD hA hS hl hret
  have hown : s.vm.findClass RL = some m.cls := hown
  have hl : lv_has ls 11 [(0, .ref (v 0)), (1, .int (nI w))] := hl
  have k1109 := hts (Cond.constant RL 252 (65535)) (List.mem_cons_of_mem _ (gT_of mw_1109 rfl))
  obtain ⟨hN, hN2, hKn, hK2, hCn, hC1, hC2, hn, hnt, hSK⟩ := id hOI
  have hgo : ∀ (H : Heap) (locs : List Loc), va_P D vwCl (WIN T v B O g ln un nx pl f0 f1 f2) H → va_S A s.heap H locs → W p l e ({ frames := 12, cells := 6000, slots := 36000, locals := 265 } : Room) s m args below meth c H locs (0) (0) Q (F0 m 0 ls []) := by
    intro H locs hP hS
    refine lv_aload_n hx hb dL_moon_0 rfl (lv_at hl 0 rfl) ?_
    refine rdV (As := []) (rest := []) ⟨hx, hb, hml, hown, hts⟩ (c_X9_night l D T v B O g ln un nx pl f0 f1 f2 ) (cwV 0 hts (gC gl_X9_night) rfl rfl rfl (by decide +kernel) ⟨Nat.le_of_ble_eq_true rfl, Nat.le_of_ble_eq_true rfl⟩) hK hP 0 rfl rfl rfl hl.1 rfl (Nat.le_of_ble_eq_true rfl) ⟨by show _ ≤ 6000; omega, by show _ ≤ 36000; omega⟩ dL_moon_1 ?_
    refine endI (r := nI nt) (hn) ?_
    refine lv_istore_n (lv' := [(2, .int (nI nt)), (0, .ref (v 0)), (1, .int (nI w))]) hx hb dL_moon_4 rfl hl (by decide) rfl (fun ls hl => ?_)
    refine lv_aload_n hx hb dL_moon_5 rfl (lv_at hl 1 rfl) ?_
    refine lv_bipush (v := 16) hx hb dL_moon_6 (by decide) ?_
    refine lv_iconst (v := -1) hx hb dL_moon_8 (by decide) ?_
    refine lqSi (As := [.ref (v 0), .int (16), .int (-1)]) (rest := []) ⟨hx, hb, hml, hown, hts⟩ (c_ask_bad16 l hl9 D T aK aV v B O g ln un nx pl f0 f1 f2 N K C nt hOI _) (va_cwS 3 hts (gC gl_L_call__) rfl rfl rfl (by decide +kernel) ⟨Nat.le_of_ble_eq_true rfl, Nat.le_of_ble_eq_true rfl⟩) (Foc.rfl _ _) hC hNC hK hP hD hS hA rfl hl.1 rfl (Nat.le_of_ble_eq_true rfl) ⟨by show _ ≤ 6000; omega, by show _ ≤ 36000; omega⟩ dL_moon_9 (fun H locs hP hD hS => ?_)
    have hP : va_P D vwCl (WIN T v B O g ln un nx pl f0 f1 f2) H := hP
    have hD : va_D A (WIN T v B O g ln un nx pl f0 f1 f2) := hD
    refine lv_bipush (v := -103) hx hb dL_moon_12 (by decide) ?_
    refine lv_icmp_ne (tgt := 60) hx hb dL_moon_14 (by decide) (fun c14 => ?_) (fun c14 => ?_)
    ·
      exact absurd c14 (by decide)
    ·
      refine lv_aload_n hx hb dL_moon_17 rfl (lv_at hl 1 rfl) ?_
      refine lv_bipush (v := 19) hx hb dL_moon_18 (by decide) ?_
      refine lv_sipush (v := 2001) hx hb dL_moon_20 (by decide) ?_
      refine lqSi (As := [.ref (v 0), .int (19), .int (2001)]) (rest := []) ⟨hx, hb, hml, hown, hts⟩ (c_ask_bad19 l hl9 D T aK aV v B O g ln un nx pl f0 f1 f2 N K C nt hOI _) (va_cwS 3 hts (gC gl_L_call__) rfl rfl rfl (by decide +kernel) ⟨Nat.le_of_ble_eq_true rfl, Nat.le_of_ble_eq_true rfl⟩) (Foc.rfl _ _) hC hNC hK hP hD hS hA rfl hl.1 rfl (Nat.le_of_ble_eq_true rfl) ⟨by show _ ≤ 6000; omega, by show _ ≤ 36000; omega⟩ dL_moon_23 (fun H locs hP hD hS => ?_)
      have hP : va_P D vwCl (WIN T v B O g ln un nx pl f0 f1 f2) H := hP
      have hD : va_D A (WIN T v B O g ln un nx pl f0 f1 f2) := hD
      refine lv_bipush (v := -103) hx hb dL_moon_26 (by decide) ?_
      refine lv_icmp_ne (tgt := 60) hx hb dL_moon_28 (by decide) (fun c28 => ?_) (fun c28 => ?_)
      ·
        exact absurd c28 (by decide)
      ·
        refine lv_aload_n hx hb dL_moon_31 rfl (lv_at hl 1 rfl) ?_
        refine lv_bipush (v := 20) hx hb dL_moon_32 (by decide) ?_
        refine lv_iconst (v := 4) hx hb dL_moon_34 (by decide) ?_
        refine lv_iconst (v := 0) hx hb dL_moon_35 (by decide) ?_
        refine lqSi (As := [.ref (v 0), .int (20), .int (4), .int (0)]) (rest := []) ⟨hx, hb, hml, hown, hts⟩ (c_ask_bad20 l hl9 D T aK aV v B O g ln un nx pl f0 f1 f2 N K C nt hOI _) (va_cwS 4 hts (gC gl_L_call_) rfl rfl rfl (by decide +kernel) ⟨Nat.le_of_ble_eq_true rfl, Nat.le_of_ble_eq_true rfl⟩) (Foc.rfl _ _) hC hNC hK hP hD hS hA rfl hl.1 rfl (Nat.le_of_ble_eq_true rfl) ⟨by show _ ≤ 6000; omega, by show _ ≤ 36000; omega⟩ dL_moon_36 (fun H locs hP hD hS => ?_)
        have hP : va_P D vwCl (WIN T v B O g ln un nx pl f0 f1 f2) H := hP
        have hD : va_D A (WIN T v B O g ln un nx pl f0 f1 f2) := hD
        refine lv_bipush (v := -103) hx hb dL_moon_39 (by decide) ?_
        refine lv_icmp_ne (tgt := 60) hx hb dL_moon_41 (by decide) (fun c41 => ?_) (fun c41 => ?_)
        ·
          exact absurd c41 (by decide)
        ·
          refine lv_aload_n hx hb dL_moon_44 rfl (lv_at hl 1 rfl) ?_
          refine lv_bipush (v := 21) hx hb dL_moon_45 (by decide) ?_
          refine lv_iconst (v := -1) hx hb dL_moon_47 (by decide) ?_
          refine lqSi (As := [.ref (v 0), .int (21), .int (-1)]) (rest := []) ⟨hx, hb, hml, hown, hts⟩ (c_ask_bad21 l hl9 D T aK aV v B O g ln un nx pl f0 f1 f2 N K C nt hOI _) (va_cwS 3 hts (gC gl_L_call__) rfl rfl rfl (by decide +kernel) ⟨Nat.le_of_ble_eq_true rfl, Nat.le_of_ble_eq_true rfl⟩) (Foc.rfl _ _) hC hNC hK hP hD hS hA rfl hl.1 rfl (Nat.le_of_ble_eq_true rfl) ⟨by show _ ≤ 6000; omega, by show _ ≤ 36000; omega⟩ dL_moon_48 (fun H locs hP hD hS => ?_)
          have hP : va_P D vwCl (WIN T v B O g ln un nx pl f0 f1 f2) H := hP
          have hD : va_D A (WIN T v B O g ln un nx pl f0 f1 f2) := hD
          refine lv_bipush (v := -103) hx hb dL_moon_51 (by decide) ?_
          refine lv_icmp_ne (tgt := 60) hx hb dL_moon_53 (by decide) (fun c53 => ?_) (fun c53 => ?_)
          ·
            exact absurd c53 (by decide)
          ·
            refine lv_iconst (v := 1) hx hb dL_moon_56 (by decide) ?_
            refine lv_goto (tgt := 61) hx hb dL_moon_57 (by decide) ?_
            refine lv_istore_n (lv' := [(3, .int (1)), (2, .int (nI nt)), (0, .ref (v 0)), (1, .int (nI w))]) hx hb dL_moon_61 rfl hl (by decide) rfl (fun ls hl => ?_)
            refine lv_iconst (v := 0) hx hb dL_moon_62 (by decide) ?_
            refine lv_istore (lv' := [(4, .int (0)), (3, .int (1)), (2, .int (nI nt)), (0, .ref (v 0)), (1, .int (nI w))]) hx hb dL_moon_63 hl (by decide) rfl (fun ls hl => ?_)
            have L65 : ∀ (n9 : Nat) (q : Nat) (cb1 sb1 : Nat), (30 - q) < n9 → (q ≤ 30) → cb1 ≤ 0 + 16 + 44 * q → sb1 ≤ 0 + 96 + 264 * q → ∀ (H : Heap) (locs : List Loc) (ls : Array Slot), va_P D vwCl (WIN T v B O g ln un nx pl f0 f1 f2) H → va_D A (WIN T v B O g ln un nx pl f0 f1 f2) → va_S A s.heap H locs → lv_has ls 11 [(4, .int (nI q)), (3, .int (1)), (2, .int (nI nt)), (0, .ref (v 0)), (1, .int (nI w))] → W p l e ({ frames := 12, cells := 6000, slots := 36000, locals := 265 } : Room) s m args below meth c H locs cb1 sb1 Q (F0 m 65 ls []) := by
              intro n9
              induction n9 with
              | zero => intro q cb1 sb1 hm9; exact absurd hm9 (Nat.not_lt_zero _)
              | succ n9 ih65 =>
                intro q cb1 sb1 hm9 hq30 hcb1 hsb1 H locs ls hP hD hS hl
                refine lv_iload hx hb dL_moon_65 (lv_at hl 0 rfl) ?_
                refine lv_bipush (v := 30) hx hb dL_moon_67 (by decide) ?_
                refine lv_icmp_ge (tgt := 421) hx hb dL_moon_69 (by decide) (fun c69 => ?_) (fun c69 => ?_)
                ·
                  have c69 : 30 ≤ q := (nI_leI (a := 30) (b := q) (by omega) (by omega)).mp c69
                  refine lv_iconst (v := 0) hx hb dL_moon_421 (by decide) ?_
                  refine lv_istore (lv' := [(4, .int (0)), (3, .int (1)), (2, .int (nI nt)), (0, .ref (v 0)), (1, .int (nI w))]) hx hb dL_moon_422 hl (by decide) rfl (fun ls hl => ?_)
                  refine lv_iconst (v := 0) hx hb dL_moon_424 (by decide) ?_
                  refine lv_istore (lv' := [(5, .int (0)), (4, .int (0)), (3, .int (1)), (2, .int (nI nt)), (0, .ref (v 0)), (1, .int (nI w))]) hx hb dL_moon_425 hl (by decide) rfl (fun ls hl => ?_)
                  have L427 : ∀ (n9 : Nat) (sort : Nat) (b : Nat) (cb2 sb2 : Nat), (4 - sort) < n9 → (sort ≤ 4) → (b < 4) → (iter (lkL (jcC (O 0) C nt)) (4 - sort) sort b = iter (lkL (jcC (O 0) C nt)) 4 0 0) → cb2 ≤ 0 + 16 + 44 * q + 0 + 1132 * sort → sb2 ≤ 0 + 96 + 264 * q + 0 + 6792 * sort → ∀ (H : Heap) (locs : List Loc) (ls : Array Slot), va_P D vwCl (WIN T v B O g ln un nx pl f0 f1 f2) H → va_D A (WIN T v B O g ln un nx pl f0 f1 f2) → va_S A s.heap H locs → lv_has ls 11 [(5, .int (nI sort)), (4, .int (nI b)), (3, .int (1)), (2, .int (nI nt)), (0, .ref (v 0)), (1, .int (nI w))] → W p l e ({ frames := 12, cells := 6000, slots := 36000, locals := 265 } : Room) s m args below meth c H locs cb2 sb2 Q (F0 m 427 ls []) := by
                    intro n9
                    induction n9 with
                    | zero => intro sort b cb2 sb2 hm9; exact absurd hm9 (Nat.not_lt_zero _)
                    | succ n9 ih427 =>
                      intro sort b cb2 sb2 hm9 hs4 hb4 hRb hcb2 hsb2 H locs ls hP hD hS hl
                      refine lv_iload hx hb dL_moon_427 (lv_at hl 0 rfl) ?_
                      refine lv_iconst (v := 4) hx hb dL_moon_429 (by decide) ?_
                      refine lv_icmp_ge (tgt := 578) hx hb dL_moon_430 (by decide) (fun c430 => ?_) (fun c430 => ?_)
                      ·
                        have c430 : 4 ≤ sort := (nI_leI (a := 4) (b := sort) (by omega) (by omega)).mp c430
                        refine lv_bipush (v := 6) hx hb dL_moon_578 (by decide) ?_
                        refine lv_aload_n hx hb dL_moon_580 rfl (lv_at hl 4 rfl) ?_
                        refine lv_bipush (v := 19) hx hb dL_moon_581 (by decide) ?_
                        refine lv_iload_n hx hb dL_moon_583 rfl (lv_at hl 3 rfl) ?_
                        refine lqSi (As := [.ref (v 0), .int (19), .int (nI nt)]) (rest := [.int (6)]) ⟨hx, hb, hml, hown, hts⟩ (c_ask_visibleLight l hl9 D T aK aV v B O g ln un nx pl f0 f1 f2 nt N K C nt hOI (by omega) _) (va_cwS 3 hts (gC gl_L_call__) rfl rfl rfl (by decide +kernel) ⟨Nat.le_of_ble_eq_true rfl, Nat.le_of_ble_eq_true rfl⟩) (Foc.rfl _ _) hC hNC hK hP hD hS hA rfl hl.1 rfl (Nat.le_of_ble_eq_true rfl) ⟨by show _ ≤ 6000; omega, by show _ ≤ 36000; omega⟩ dL_moon_584 (fun H locs hP hD hS => ?_)
                        have hP : va_P D vwCl (WIN T v B O g ln un nx pl f0 f1 f2) H := hP
                        have hD : va_D A (WIN T v B O g ln un nx pl f0 f1 f2) := hD
                        refine lv_iconst (v := 3) hx hb dL_moon_587 (by decide) ?_
                        refine lv_idiv hx hb dL_moon_588 (by decide) ?_
                        refine lv_isub hx hb dL_moon_589 ?_
                        refine lv_istore (lv' := [(5, .int (6 - ((visI nt ((O 0) 1 (nt % C))) / 3))), (4, .int (nI b)), (3, .int (1)), (2, .int (nI nt)), (0, .ref (v 0)), (1, .int (nI w))]) hx hb dL_moon_590 hl (by decide) rfl (fun ls hl => ?_)
                        refine lv_iload_n hx hb dL_moon_592 rfl (lv_at hl 2 rfl) ?_
                        refine lv_if_eq (tgt := 618) hx hb dL_moon_593 (by decide) (fun c593 => ?_) (fun c593 => ?_)
                        ·
                          exact absurd c593 (by decide)
                        ·
                          refine lv_aload_n hx hb dL_moon_596 rfl (lv_at hl 4 rfl) ?_
                          refine rdV (As := []) (rest := []) ⟨hx, hb, hml, hown, hts⟩ (c_X9_likeliestSort l D T v B O g ln un nx pl f0 f1 f2 N K C nt hOI) (cwV 0 hts (gC gl_X9_likeliestSort) rfl rfl rfl (by decide +kernel) ⟨Nat.le_of_ble_eq_true rfl, Nat.le_of_ble_eq_true rfl⟩) hK hP 0 rfl rfl rfl hl.1 rfl (Nat.le_of_ble_eq_true rfl) ⟨by show _ ≤ 6000; omega, by show _ ≤ 36000; omega⟩ dL_moon_597 ?_
                          refine endI (r := nI b) (by rw [likeC_L, ← hRb]; rw [iter_done (by omega)]) ?_
                          refine lv_iload hx hb dL_moon_600 (lv_at hl 1 rfl) ?_
                          refine lv_icmp_ne (tgt := 618) hx hb dL_moon_602 (by decide) (fun c602 => ?_) (fun c602 => ?_)
                          ·
                            exact absurd rfl c602
                          ·
                            refine lv_aload_n hx hb dL_moon_605 rfl (lv_at hl 4 rfl) ?_
                            refine rdV (As := []) (rest := []) ⟨hx, hb, hml, hown, hts⟩ (c_X9_oilCost l D T v B O g ln un nx pl f0 f1 f2 N K C nt hOI) (cwV 0 hts (gC gl_X9_oilCost) rfl rfl rfl (by decide +kernel) ⟨Nat.le_of_ble_eq_true rfl, Nat.le_of_ble_eq_true rfl⟩) hK hP 0 rfl rfl rfl hl.1 rfl (Nat.le_of_ble_eq_true rfl) ⟨by show _ ≤ 6000; omega, by show _ ≤ 36000; omega⟩ dL_moon_606 ?_
                            refine endI (r := 6 - ((visI nt ((O 0) 1 (nt % C))) / 3)) (rfl) ?_
                            refine lv_iload hx hb dL_moon_609 (lv_at hl 0 rfl) ?_
                            refine lv_icmp_ne (tgt := 618) hx hb dL_moon_611 (by decide) (fun c611 => ?_) (fun c611 => ?_)
                            ·
                              exact absurd rfl c611
                            ·
                              refine lv_iconst (v := 1) hx hb dL_moon_614 (by decide) ?_
                              refine lv_goto (tgt := 619) hx hb dL_moon_615 (by decide) ?_
                              refine endI (r := 1) (by rfl) ?_
                              exact hret _ _ _ _ _ _ dL_moon_619 hP hD hS (by omega) (by omega)
                      ·
                        have c430 : ¬ 4 ≤ sort := fun h9 => c430 ((nI_leI (a := 4) (b := sort) (by omega) (by omega)).mpr h9)
                        refine lv_iload_n hx hb dL_moon_433 rfl (lv_at hl 2 rfl) ?_
                        refine lv_if_eq (tgt := 578) hx hb dL_moon_434 (by decide) (fun c434 => ?_) (fun c434 => ?_)
                        ·
                          exact absurd c434 (by decide)
                        ·
                          refine lv_iconst (v := 0) hx hb dL_moon_437 (by decide) ?_
                          refine lv_istore (lv' := [(6, .int (0)), (5, .int (nI sort)), (4, .int (nI b)), (3, .int (1)), (2, .int (nI nt)), (0, .ref (v 0)), (1, .int (nI w))]) hx hb dL_moon_438 hl (by decide) rfl (fun ls hl => ?_)
                          refine lv_bipush (v := -101) hx hb dL_moon_440 (by decide) ?_
                          refine lv_istore (lv' := [(7, .int (-101)), (6, .int (0)), (5, .int (nI sort)), (4, .int (nI b)), (3, .int (1)), (2, .int (nI nt)), (0, .ref (v 0)), (1, .int (nI w))]) hx hb dL_moon_442 hl (by decide) rfl (fun ls hl => ?_)
                          refine lv_iload_n hx hb dL_moon_444 rfl (lv_at hl 5 rfl) ?_
                          refine lv_istore (lv' := [(8, .int (nI nt)), (7, .int (-101)), (6, .int (0)), (5, .int (nI sort)), (4, .int (nI b)), (3, .int (1)), (2, .int (nI nt)), (0, .ref (v 0)), (1, .int (nI w))]) hx hb dL_moon_445 hl (by decide) rfl (fun ls hl => ?_)
                          have L447 : ∀ (n9 : Nat) (n : Nat) (mm : Int32) (fo : Option Nat) (cb3 sb3 : Nat), (nt + 280 - n) < n9 → (nt ≤ n) → (n ≤ nt + 280) → (cntI (fun k => justB sort ((O 0) 0 1) ((O 0) 0 2) ((O 0) 0 3) k ((O 0) 1 (k % C))) (nt + 28 - n) n mm = jcC (O 0) C nt sort) → (fo.elim (ffind (fun k => justB sort ((O 0) 0 1) ((O 0) 0 2) ((O 0) 0 3) k ((O 0) 1 (k % C))) (nt + 280 - n) n) some = nextC (O 0) C nt sort) → (∀ f, fo = some f → f < 2000) → cb3 ≤ 0 + 16 + 44 * q + 0 + 1132 * sort + 0 + 4 * ((n - nt)) → sb3 ≤ 0 + 96 + 264 * q + 0 + 6792 * sort + 0 + 24 * ((n - nt)) → ∀ (H : Heap) (locs : List Loc) (ls : Array Slot), va_P D vwCl (WIN T v B O g ln un nx pl f0 f1 f2) H → va_D A (WIN T v B O g ln un nx pl f0 f1 f2) → va_S A s.heap H locs → lv_has ls 11 [(8, .int (nI n)), (7, .int (fo.elim (-101) nI)), (6, .int (mm)), (5, .int (nI sort)), (4, .int (nI b)), (3, .int (1)), (2, .int (nI nt)), (0, .ref (v 0)), (1, .int (nI w))] → W p l e ({ frames := 12, cells := 6000, slots := 36000, locals := 265 } : Room) s m args below meth c H locs cb3 sb3 Q (F0 m 447 ls []) := by
                            intro n9
                            induction n9 with
                            | zero => intro n mm fo cb3 sb3 hm9; exact absurd hm9 (Nat.not_lt_zero _)
                            | succ n9 ih447 =>
                              intro n mm fo cb3 sb3 hm9 hn0 hn1 hM hF hfo hcb3 hsb3 H locs ls hP hD hS hl
                              refine lv_iload hx hb dL_moon_447 (lv_at hl 0 rfl) ?_
                              refine lv_iload_n hx hb dL_moon_449 rfl (lv_at hl 6 rfl) ?_
                              refine lv_sipush (v := 280) hx hb dL_moon_450 (by decide) ?_
                              refine lv_iadd hx hb dL_moon_453 ?_
                              refine endI (r := nI (nt + 280)) (nI_add _ _) ?_
                              refine lv_icmp_ge (tgt := 523) hx hb dL_moon_454 (by decide) (fun c454 => ?_) (fun c454 => ?_)
                              ·
                                have c454 : (nt + 280) ≤ n := (nI_leI (a := (nt + 280)) (b := n) (by omega) (by omega)).mp c454
                                have hme : jcC (O 0) C nt sort = mm := by rw [← hM]; exact cntI_done (by omega)
                                refine lv_aload_n hx hb dL_moon_523 rfl (lv_at hl 7 rfl) ?_
                                refine lv_bipush (v := 22) hx hb dL_moon_524 (by decide) ?_
                                refine lv_iload hx hb dL_moon_526 (lv_at hl 3 rfl) ?_
                                refine lqSi (As := [.ref (v 0), .int (22), .int (nI sort)]) (rest := []) ⟨hx, hb, hml, hown, hts⟩ (c_ask_justifiedNights l hl9 D T aK aV v B O g ln un nx pl f0 f1 f2 sort N K C nt hOI (by omega) _) (va_cwS 3 hts (gC gl_L_call__) rfl rfl rfl (by decide +kernel) ⟨Nat.le_of_ble_eq_true rfl, Nat.le_of_ble_eq_true rfl⟩) (Foc.rfl _ _) hC hNC hK hP hD hS hA rfl hl.1 rfl (Nat.le_of_ble_eq_true rfl) ⟨by show _ ≤ 6000; omega, by show _ ≤ 36000; omega⟩ dL_moon_528 (fun H locs hP hD hS => ?_)
                                have hP : va_P D vwCl (WIN T v B O g ln un nx pl f0 f1 f2) H := hP
                                have hD : va_D A (WIN T v B O g ln un nx pl f0 f1 f2) := hD
                                refine endI (r := mm) (hme) ?_
                                refine lv_iload hx hb dL_moon_531 (lv_at hl 2 rfl) ?_
                                refine lv_icmp_ne (tgt := 553) hx hb dL_moon_533 (by decide) (fun c533 => ?_) (fun c533 => ?_)
                                ·
                                  exact absurd rfl c533
                                ·
                                  refine lv_aload_n hx hb dL_moon_536 rfl (lv_at hl 7 rfl) ?_
                                  refine lv_bipush (v := 21) hx hb dL_moon_537 (by decide) ?_
                                  refine lv_iload hx hb dL_moon_539 (lv_at hl 3 rfl) ?_
                                  refine lqSi (As := [.ref (v 0), .int (21), .int (nI sort)]) (rest := []) ⟨hx, hb, hml, hown, hts⟩ (c_ask_nextJustified l hl9 D T aK aV v B O g ln un nx pl f0 f1 f2 sort N K C nt hOI (by omega) _) (va_cwS 3 hts (gC gl_L_call__) rfl rfl rfl (by decide +kernel) ⟨Nat.le_of_ble_eq_true rfl, Nat.le_of_ble_eq_true rfl⟩) (Foc.rfl _ _) hC hNC hK hP hD hS hA rfl hl.1 rfl (Nat.le_of_ble_eq_true rfl) ⟨by show _ ≤ 6000; omega, by show _ ≤ 36000; omega⟩ dL_moon_541 (fun H locs hP hD hS => ?_)
                                  have hP : va_P D vwCl (WIN T v B O g ln un nx pl f0 f1 f2) H := hP
                                  have hD : va_D A (WIN T v B O g ln un nx pl f0 f1 f2) := hD
                                  refine endI (r := fo.elim (-101) nI) (by rw [← hF, ffind_done (by omega)]; cases fo <;> rfl) ?_
                                  refine lv_iload hx hb dL_moon_544 (lv_at hl 1 rfl) ?_
                                  refine lv_icmp_ne (tgt := 553) hx hb dL_moon_546 (by decide) (fun c546 => ?_) (fun c546 => ?_)
                                  ·
                                    exact absurd rfl c546
                                  ·
                                    refine lv_iconst (v := 1) hx hb dL_moon_549 (by decide) ?_
                                    refine lv_goto (tgt := 554) hx hb dL_moon_550 (by decide) ?_
                                    refine lv_istore_n (lv' := [(3, .int (1)), (8, .int (nI n)), (7, .int (fo.elim (-101) nI)), (6, .int (mm)), (5, .int (nI sort)), (4, .int (nI b)), (2, .int (nI nt)), (0, .ref (v 0)), (1, .int (nI w))]) hx hb dL_moon_554 rfl hl (by decide) rfl (fun ls hl => ?_)
                                    refine lv_iload hx hb dL_moon_555 (lv_at hl 3 rfl) ?_
                                    refine lv_aload_n hx hb dL_moon_557 rfl (lv_at hl 7 rfl) ?_
                                    refine lv_bipush (v := 22) hx hb dL_moon_558 (by decide) ?_
                                    refine lv_iload hx hb dL_moon_560 (lv_at hl 5 rfl) ?_
                                    refine lqSi (As := [.ref (v 0), .int (22), .int (nI b)]) (rest := [.int (mm)]) ⟨hx, hb, hml, hown, hts⟩ (c_ask_justifiedNights l hl9 D T aK aV v B O g ln un nx pl f0 f1 f2 b N K C nt hOI (by omega) _) (va_cwS 3 hts (gC gl_L_call__) rfl rfl rfl (by decide +kernel) ⟨Nat.le_of_ble_eq_true rfl, Nat.le_of_ble_eq_true rfl⟩) (Foc.rfl _ _) hC hNC hK hP hD hS hA rfl hl.1 rfl (Nat.le_of_ble_eq_true rfl) ⟨by show _ ≤ 6000; omega, by show _ ≤ 36000; omega⟩ dL_moon_562 (fun H locs hP hD hS => ?_)
                                    have hP : va_P D vwCl (WIN T v B O g ln un nx pl f0 f1 f2) H := hP
                                    have hD : va_D A (WIN T v B O g ln un nx pl f0 f1 f2) := hD
                                    refine lv_icmp_le (tgt := 572) hx hb dL_moon_565 (by decide) (fun c565 => ?_) (fun c565 => ?_)
                                    ·
                                      refine lv_iinc (v := nI (sort + 1)) (lv' := [(5, .int (nI (sort + 1))), (3, .int (1)), (8, .int (nI n)), (7, .int (fo.elim (-101) nI)), (6, .int (mm)), (4, .int (nI b)), (2, .int (nI nt)), (0, .ref (v 0)), (1, .int (nI w))]) hx hb dL_moon_572 hl (k := 4) rfl (nI_1 _) (by decide) rfl (fun ls hl => ?_)
                                      refine lv_goto (tgt := 427) hx hb dL_moon_575 (by decide) ?_
                                      exact ih427 (sort + 1) b _ _ (by omega) (by omega) (by omega) (by rw [iter_step (by omega)] at hRb; unfold lkL at hRb ⊢; first | (rw [if_neg (by rw [hme]; exact Int32.not_lt.mpr c565)] at hRb; exact hRb) | (rw [if_pos (by rw [hme]; exact Int32.not_le.mp c565)] at hRb; exact hRb)) (by omega) (by omega) _ _ _ hP hD hS (lv_sub hl [0, 5, 1, 6, 7, 8] rfl)
                                    ·
                                      refine lv_iload hx hb dL_moon_568 (lv_at hl 4 rfl) ?_
                                      refine lv_istore (lv' := [(4, .int (nI sort)), (3, .int (1)), (8, .int (nI n)), (7, .int (fo.elim (-101) nI)), (6, .int (mm)), (5, .int (nI sort)), (2, .int (nI nt)), (0, .ref (v 0)), (1, .int (nI w))]) hx hb dL_moon_570 hl (by decide) rfl (fun ls hl => ?_)
                                      refine lv_iinc (v := nI (sort + 1)) (lv' := [(5, .int (nI (sort + 1))), (4, .int (nI sort)), (3, .int (1)), (8, .int (nI n)), (7, .int (fo.elim (-101) nI)), (6, .int (mm)), (2, .int (nI nt)), (0, .ref (v 0)), (1, .int (nI w))]) hx hb dL_moon_572 hl (k := 5) rfl (nI_1 _) (by decide) rfl (fun ls hl => ?_)
                                      refine lv_goto (tgt := 427) hx hb dL_moon_575 (by decide) ?_
                                      exact ih427 (sort + 1) sort _ _ (by omega) (by omega) (by omega) (by rw [iter_step (by omega)] at hRb; unfold lkL at hRb ⊢; first | (rw [if_neg (by rw [hme]; exact Int32.not_lt.mpr c565)] at hRb; exact hRb) | (rw [if_pos (by rw [hme]; exact Int32.not_le.mp c565)] at hRb; exact hRb)) (by omega) (by omega) _ _ _ hP hD hS (lv_sub hl [0, 1, 2, 6, 7, 8] rfl)
                              ·
                                have c454 : ¬ (nt + 280) ≤ n := fun h9 => c454 ((nI_leI (a := (nt + 280)) (b := n) (by omega) (by omega)).mpr h9)
                                rcases Bool.eq_false_or_eq_true (justB sort ((O 0) 0 1) ((O 0) 0 2) ((O 0) 0 3) n ((O 0) 1 (n % C))) with hJ | hJ <;> rcases fo with _ | f
                                ·
                                  have hl : lv_has ls 11 [(8, .int (nI n)), (7, .int (-101)), (6, .int (mm)), (5, .int (nI sort)), (4, .int (nI b)), (3, .int (1)), (2, .int (nI nt)), (0, .ref (v 0)), (1, .int (nI w))] := hl
                                  refine lv_aload_n hx hb dL_moon_457 rfl (lv_at hl 7 rfl) ?_
                                  refine lv_bipush (v := 20) hx hb dL_moon_458 (by decide) ?_
                                  refine lv_iload hx hb dL_moon_460 (lv_at hl 3 rfl) ?_
                                  refine lv_iload hx hb dL_moon_462 (lv_at hl 0 rfl) ?_
                                  refine lqSi (As := [.ref (v 0), .int (20), .int (nI sort), .int (nI n)]) (rest := []) ⟨hx, hb, hml, hown, hts⟩ (c_ask_isJustified l hl9 D T aK aV v B O g ln un nx pl f0 f1 f2 sort n N K C nt hOI (by omega) (by omega) _) (va_cwS 4 hts (gC gl_L_call_) rfl rfl rfl (by decide +kernel) ⟨Nat.le_of_ble_eq_true rfl, Nat.le_of_ble_eq_true rfl⟩) (Foc.rfl _ _) hC hNC hK hP hD hS hA rfl hl.1 rfl (Nat.le_of_ble_eq_true rfl) ⟨by show _ ≤ 6000; omega, by show _ ≤ 36000; omega⟩ dL_moon_464 (fun H locs hP hD hS => ?_)
                                  have hP : va_P D vwCl (WIN T v B O g ln un nx pl f0 f1 f2) H := hP
                                  have hD : va_D A (WIN T v B O g ln un nx pl f0 f1 f2) := hD
                                  refine endI (r := 1) (by rw [hJ]; rfl) ?_
                                  refine lv_istore (lv' := [(9, .int (1)), (8, .int (nI n)), (7, .int (-101)), (6, .int (mm)), (5, .int (nI sort)), (4, .int (nI b)), (3, .int (1)), (2, .int (nI nt)), (0, .ref (v 0)), (1, .int (nI w))]) hx hb dL_moon_467 hl (by decide) rfl (fun ls hl => ?_)
                                  refine lv_iload hx hb dL_moon_469 (lv_at hl 1 rfl) ?_
                                  refine lv_iload_n hx hb dL_moon_471 rfl (lv_at hl 7 rfl) ?_
                                  refine lv_bipush (v := 28) hx hb dL_moon_472 (by decide) ?_
                                  refine lv_iadd hx hb dL_moon_474 ?_
                                  refine endI (r := nI (nt + 28)) (nI_add _ _) ?_
                                  refine lv_icmp_ge (tgt := 485) hx hb dL_moon_475 (by decide) (fun c475 => ?_) (fun c475 => ?_)
                                  ·
                                    have c475 : (nt + 28) ≤ n := (nI_leI (a := (nt + 28)) (b := n) (by omega) (by omega)).mp c475
                                    refine lv_iload hx hb dL_moon_485 (lv_at hl 0 rfl) ?_
                                    refine lv_iconst (v := 1) hx hb dL_moon_487 (by decide) ?_
                                    refine lv_icmp_ne (tgt := 500) hx hb dL_moon_488 (by decide) (fun c488 => ?_) (fun c488 => ?_)
                                    ·
                                      exact absurd c488 (by decide)
                                    ·
                                      refine lv_iload hx hb dL_moon_491 (lv_at hl 2 rfl) ?_
                                      refine lv_if_ge (tgt := 500) hx hb dL_moon_493 (by decide) (fun c493 => ?_) (fun c493 => ?_)
                                      ·
                                        exact absurd c493 (by decide)
                                      ·
                                        refine lv_iload hx hb dL_moon_496 (lv_at hl 1 rfl) ?_
                                        refine lv_istore (lv' := [(7, .int (nI n)), (9, .int (1)), (8, .int (nI n)), (6, .int (mm)), (5, .int (nI sort)), (4, .int (nI b)), (3, .int (1)), (2, .int (nI nt)), (0, .ref (v 0)), (1, .int (nI w))]) hx hb dL_moon_498 hl (by decide) rfl (fun ls hl => ?_)
                                        refine lv_iload hx hb dL_moon_500 (lv_at hl 0 rfl) ?_
                                        refine lv_if_lt (tgt := 517) hx hb dL_moon_502 (by decide) (fun c502 => ?_) (fun c502 => ?_)
                                        ·
                                          have c502 : n < 0 := (nI_ltI (a := n) (b := 0) (by omega) (by omega)).mp c502
                                          exfalso; omega
                                        ·
                                          have c502 : ¬ n < 0 := fun h9 => c502 ((nI_ltI (a := n) (b := 0) (by omega) (by omega)).mpr h9)
                                          refine lv_iload hx hb dL_moon_505 (lv_at hl 2 rfl) ?_
                                          refine lv_iload_n hx hb dL_moon_507 rfl (lv_at hl 7 rfl) ?_
                                          refine lv_bipush (v := 28) hx hb dL_moon_508 (by decide) ?_
                                          refine lv_iadd hx hb dL_moon_510 ?_
                                          refine endI (r := nI (nt + 28)) (nI_add _ _) ?_
                                          refine lv_icmp_lt (tgt := 517) hx hb dL_moon_511 (by decide) (fun c511 => ?_) (fun c511 => ?_)
                                          ·
                                            have c511 : n < (nt + 28) := (nI_ltI (a := n) (b := (nt + 28)) (by omega) (by omega)).mp c511
                                            refine lv_iinc (v := nI (n + 1)) (lv' := [(8, .int (nI (n + 1))), (7, .int (nI n)), (9, .int (1)), (6, .int (mm)), (5, .int (nI sort)), (4, .int (nI b)), (3, .int (1)), (2, .int (nI nt)), (0, .ref (v 0)), (1, .int (nI w))]) hx hb dL_moon_517 hl (k := 2) rfl (nI_1 _) (by decide) rfl (fun ls hl => ?_)
                                            refine lv_goto (tgt := 447) hx hb dL_moon_520 (by decide) ?_
                                            exact ih447 (n + 1) mm (some n) _ _ (by omega) (by omega) (by omega) (by first | (rw [cntI_step (by omega), hJ] at hM; first | exact hM | (rw [show mm + 0 = mm from Int32.add_zero mm]; exact hM)) | (rw [cntI_done (by omega)] at hM ⊢; exact hM)) (by first | exact hF | (rw [← hF]; show _ = ffind _ _ _; rw [ffind_step (k := n) (by omega), hJ]; rfl)) (by intro f9 h9; first | (cases h9; omega) | exact hfo f9 h9 | (cases h9)) (by omega) (by omega) _ _ _ hP hD hS (lv_sub hl [0, 1, 3, 4, 5, 6, 7, 8, 9] rfl)
                                          ·
                                            have c511 : ¬ n < (nt + 28) := fun h9 => c511 ((nI_ltI (a := n) (b := (nt + 28)) (by omega) (by omega)).mpr h9)
                                            have hme : jcC (O 0) C nt sort = mm := by rw [← hM]; exact cntI_done (by omega)
                                            refine lv_goto (tgt := 523) hx hb dL_moon_514 (by decide) ?_
                                            refine lv_aload_n hx hb dL_moon_523 rfl (lv_at hl 8 rfl) ?_
                                            refine lv_bipush (v := 22) hx hb dL_moon_524 (by decide) ?_
                                            refine lv_iload hx hb dL_moon_526 (lv_at hl 4 rfl) ?_
                                            refine lqSi (As := [.ref (v 0), .int (22), .int (nI sort)]) (rest := []) ⟨hx, hb, hml, hown, hts⟩ (c_ask_justifiedNights l hl9 D T aK aV v B O g ln un nx pl f0 f1 f2 sort N K C nt hOI (by omega) _) (va_cwS 3 hts (gC gl_L_call__) rfl rfl rfl (by decide +kernel) ⟨Nat.le_of_ble_eq_true rfl, Nat.le_of_ble_eq_true rfl⟩) (Foc.rfl _ _) hC hNC hK hP hD hS hA rfl hl.1 rfl (Nat.le_of_ble_eq_true rfl) ⟨by show _ ≤ 6000; omega, by show _ ≤ 36000; omega⟩ dL_moon_528 (fun H locs hP hD hS => ?_)
                                            have hP : va_P D vwCl (WIN T v B O g ln un nx pl f0 f1 f2) H := hP
                                            have hD : va_D A (WIN T v B O g ln un nx pl f0 f1 f2) := hD
                                            refine endI (r := mm) (hme) ?_
                                            refine lv_iload hx hb dL_moon_531 (lv_at hl 3 rfl) ?_
                                            refine lv_icmp_ne (tgt := 553) hx hb dL_moon_533 (by decide) (fun c533 => ?_) (fun c533 => ?_)
                                            ·
                                              exact absurd rfl c533
                                            ·
                                              refine lv_aload_n hx hb dL_moon_536 rfl (lv_at hl 8 rfl) ?_
                                              refine lv_bipush (v := 21) hx hb dL_moon_537 (by decide) ?_
                                              refine lv_iload hx hb dL_moon_539 (lv_at hl 4 rfl) ?_
                                              refine lqSi (As := [.ref (v 0), .int (21), .int (nI sort)]) (rest := []) ⟨hx, hb, hml, hown, hts⟩ (c_ask_nextJustified l hl9 D T aK aV v B O g ln un nx pl f0 f1 f2 sort N K C nt hOI (by omega) _) (va_cwS 3 hts (gC gl_L_call__) rfl rfl rfl (by decide +kernel) ⟨Nat.le_of_ble_eq_true rfl, Nat.le_of_ble_eq_true rfl⟩) (Foc.rfl _ _) hC hNC hK hP hD hS hA rfl hl.1 rfl (Nat.le_of_ble_eq_true rfl) ⟨by show _ ≤ 6000; omega, by show _ ≤ 36000; omega⟩ dL_moon_541 (fun H locs hP hD hS => ?_)
                                              have hP : va_P D vwCl (WIN T v B O g ln un nx pl f0 f1 f2) H := hP
                                              have hD : va_D A (WIN T v B O g ln un nx pl f0 f1 f2) := hD
                                              refine endI (r := nI n) (by rw [← hF]; show (ffind _ _ _).elim _ _ = _; rw [ffind_step (by omega), if_pos hJ]; rfl) ?_
                                              refine lv_iload hx hb dL_moon_544 (lv_at hl 0 rfl) ?_
                                              refine lv_icmp_ne (tgt := 553) hx hb dL_moon_546 (by decide) (fun c546 => ?_) (fun c546 => ?_)
                                              ·
                                                exact absurd rfl c546
                                              ·
                                                refine lv_iconst (v := 1) hx hb dL_moon_549 (by decide) ?_
                                                refine lv_goto (tgt := 554) hx hb dL_moon_550 (by decide) ?_
                                                refine lv_istore_n (lv' := [(3, .int (1)), (7, .int (nI n)), (9, .int (1)), (8, .int (nI n)), (6, .int (mm)), (5, .int (nI sort)), (4, .int (nI b)), (2, .int (nI nt)), (0, .ref (v 0)), (1, .int (nI w))]) hx hb dL_moon_554 rfl hl (by decide) rfl (fun ls hl => ?_)
                                                refine lv_iload hx hb dL_moon_555 (lv_at hl 4 rfl) ?_
                                                refine lv_aload_n hx hb dL_moon_557 rfl (lv_at hl 8 rfl) ?_
                                                refine lv_bipush (v := 22) hx hb dL_moon_558 (by decide) ?_
                                                refine lv_iload hx hb dL_moon_560 (lv_at hl 6 rfl) ?_
                                                refine lqSi (As := [.ref (v 0), .int (22), .int (nI b)]) (rest := [.int (mm)]) ⟨hx, hb, hml, hown, hts⟩ (c_ask_justifiedNights l hl9 D T aK aV v B O g ln un nx pl f0 f1 f2 b N K C nt hOI (by omega) _) (va_cwS 3 hts (gC gl_L_call__) rfl rfl rfl (by decide +kernel) ⟨Nat.le_of_ble_eq_true rfl, Nat.le_of_ble_eq_true rfl⟩) (Foc.rfl _ _) hC hNC hK hP hD hS hA rfl hl.1 rfl (Nat.le_of_ble_eq_true rfl) ⟨by show _ ≤ 6000; omega, by show _ ≤ 36000; omega⟩ dL_moon_562 (fun H locs hP hD hS => ?_)
                                                have hP : va_P D vwCl (WIN T v B O g ln un nx pl f0 f1 f2) H := hP
                                                have hD : va_D A (WIN T v B O g ln un nx pl f0 f1 f2) := hD
                                                refine lv_icmp_le (tgt := 572) hx hb dL_moon_565 (by decide) (fun c565 => ?_) (fun c565 => ?_)
                                                ·
                                                  refine lv_iinc (v := nI (sort + 1)) (lv' := [(5, .int (nI (sort + 1))), (3, .int (1)), (7, .int (nI n)), (9, .int (1)), (8, .int (nI n)), (6, .int (mm)), (4, .int (nI b)), (2, .int (nI nt)), (0, .ref (v 0)), (1, .int (nI w))]) hx hb dL_moon_572 hl (k := 5) rfl (nI_1 _) (by decide) rfl (fun ls hl => ?_)
                                                  refine lv_goto (tgt := 427) hx hb dL_moon_575 (by decide) ?_
                                                  exact ih427 (sort + 1) b _ _ (by omega) (by omega) (by omega) (by rw [iter_step (by omega)] at hRb; unfold lkL at hRb ⊢; first | (rw [if_neg (by rw [hme]; exact Int32.not_lt.mpr c565)] at hRb; exact hRb) | (rw [if_pos (by rw [hme]; exact Int32.not_le.mp c565)] at hRb; exact hRb)) (by omega) (by omega) _ _ _ hP hD hS (lv_sub hl [0, 6, 1, 7, 8, 9] rfl)
                                                ·
                                                  refine lv_iload hx hb dL_moon_568 (lv_at hl 5 rfl) ?_
                                                  refine lv_istore (lv' := [(4, .int (nI sort)), (3, .int (1)), (7, .int (nI n)), (9, .int (1)), (8, .int (nI n)), (6, .int (mm)), (5, .int (nI sort)), (2, .int (nI nt)), (0, .ref (v 0)), (1, .int (nI w))]) hx hb dL_moon_570 hl (by decide) rfl (fun ls hl => ?_)
                                                  refine lv_iinc (v := nI (sort + 1)) (lv' := [(5, .int (nI (sort + 1))), (4, .int (nI sort)), (3, .int (1)), (7, .int (nI n)), (9, .int (1)), (8, .int (nI n)), (6, .int (mm)), (2, .int (nI nt)), (0, .ref (v 0)), (1, .int (nI w))]) hx hb dL_moon_572 hl (k := 6) rfl (nI_1 _) (by decide) rfl (fun ls hl => ?_)
                                                  refine lv_goto (tgt := 427) hx hb dL_moon_575 (by decide) ?_
                                                  exact ih427 (sort + 1) sort _ _ (by omega) (by omega) (by omega) (by rw [iter_step (by omega)] at hRb; unfold lkL at hRb ⊢; first | (rw [if_neg (by rw [hme]; exact Int32.not_lt.mpr c565)] at hRb; exact hRb) | (rw [if_pos (by rw [hme]; exact Int32.not_le.mp c565)] at hRb; exact hRb)) (by omega) (by omega) _ _ _ hP hD hS (lv_sub hl [0, 1, 2, 7, 8, 9] rfl)
                                  ·
                                    have c475 : ¬ (nt + 28) ≤ n := fun h9 => c475 ((nI_leI (a := (nt + 28)) (b := n) (by omega) (by omega)).mpr h9)
                                    refine lv_iload hx hb dL_moon_478 (lv_at hl 3 rfl) ?_
                                    refine lv_iload hx hb dL_moon_480 (lv_at hl 0 rfl) ?_
                                    refine lv_iadd hx hb dL_moon_482 ?_
                                    refine lv_istore (lv' := [(6, .int (mm + 1)), (9, .int (1)), (8, .int (nI n)), (7, .int (-101)), (5, .int (nI sort)), (4, .int (nI b)), (3, .int (1)), (2, .int (nI nt)), (0, .ref (v 0)), (1, .int (nI w))]) hx hb dL_moon_483 hl (by decide) rfl (fun ls hl => ?_)
                                    refine lv_iload hx hb dL_moon_485 (lv_at hl 1 rfl) ?_
                                    refine lv_iconst (v := 1) hx hb dL_moon_487 (by decide) ?_
                                    refine lv_icmp_ne (tgt := 500) hx hb dL_moon_488 (by decide) (fun c488 => ?_) (fun c488 => ?_)
                                    ·
                                      exact absurd c488 (by decide)
                                    ·
                                      refine lv_iload hx hb dL_moon_491 (lv_at hl 3 rfl) ?_
                                      refine lv_if_ge (tgt := 500) hx hb dL_moon_493 (by decide) (fun c493 => ?_) (fun c493 => ?_)
                                      ·
                                        exact absurd c493 (by decide)
                                      ·
                                        refine lv_iload hx hb dL_moon_496 (lv_at hl 2 rfl) ?_
                                        refine lv_istore (lv' := [(7, .int (nI n)), (6, .int (mm + 1)), (9, .int (1)), (8, .int (nI n)), (5, .int (nI sort)), (4, .int (nI b)), (3, .int (1)), (2, .int (nI nt)), (0, .ref (v 0)), (1, .int (nI w))]) hx hb dL_moon_498 hl (by decide) rfl (fun ls hl => ?_)
                                        refine lv_iload hx hb dL_moon_500 (lv_at hl 0 rfl) ?_
                                        refine lv_if_lt (tgt := 517) hx hb dL_moon_502 (by decide) (fun c502 => ?_) (fun c502 => ?_)
                                        ·
                                          have c502 : n < 0 := (nI_ltI (a := n) (b := 0) (by omega) (by omega)).mp c502
                                          exfalso; omega
                                        ·
                                          have c502 : ¬ n < 0 := fun h9 => c502 ((nI_ltI (a := n) (b := 0) (by omega) (by omega)).mpr h9)
                                          refine lv_iload hx hb dL_moon_505 (lv_at hl 3 rfl) ?_
                                          refine lv_iload_n hx hb dL_moon_507 rfl (lv_at hl 7 rfl) ?_
                                          refine lv_bipush (v := 28) hx hb dL_moon_508 (by decide) ?_
                                          refine lv_iadd hx hb dL_moon_510 ?_
                                          refine endI (r := nI (nt + 28)) (nI_add _ _) ?_
                                          refine lv_icmp_lt (tgt := 517) hx hb dL_moon_511 (by decide) (fun c511 => ?_) (fun c511 => ?_)
                                          ·
                                            have c511 : n < (nt + 28) := (nI_ltI (a := n) (b := (nt + 28)) (by omega) (by omega)).mp c511
                                            refine lv_iinc (v := nI (n + 1)) (lv' := [(8, .int (nI (n + 1))), (7, .int (nI n)), (6, .int (mm + 1)), (9, .int (1)), (5, .int (nI sort)), (4, .int (nI b)), (3, .int (1)), (2, .int (nI nt)), (0, .ref (v 0)), (1, .int (nI w))]) hx hb dL_moon_517 hl (k := 3) rfl (nI_1 _) (by decide) rfl (fun ls hl => ?_)
                                            refine lv_goto (tgt := 447) hx hb dL_moon_520 (by decide) ?_
                                            exact ih447 (n + 1) (mm + 1) (some n) _ _ (by omega) (by omega) (by omega) (by first | (rw [cntI_step (by omega), hJ] at hM; first | exact hM | (rw [show mm + 0 = mm from Int32.add_zero mm]; exact hM)) | (rw [cntI_done (by omega)] at hM ⊢; exact hM)) (by first | exact hF | (rw [← hF]; show _ = ffind _ _ _; rw [ffind_step (k := n) (by omega), hJ]; rfl)) (by intro f9 h9; first | (cases h9; omega) | exact hfo f9 h9 | (cases h9)) (by omega) (by omega) _ _ _ hP hD hS (lv_sub hl [0, 1, 2, 4, 5, 6, 7, 8, 9] rfl)
                                          ·
                                            have c511 : ¬ n < (nt + 28) := fun h9 => c511 ((nI_ltI (a := n) (b := (nt + 28)) (by omega) (by omega)).mpr h9)
                                            have hme : jcC (O 0) C nt sort = mm := by rw [← hM]; exact cntI_done (by omega)
                                            exfalso; omega
                                ·
                                  have hf9 := hfo f rfl
                                  have hl : lv_has ls 11 [(8, .int (nI n)), (7, .int (nI f)), (6, .int (mm)), (5, .int (nI sort)), (4, .int (nI b)), (3, .int (1)), (2, .int (nI nt)), (0, .ref (v 0)), (1, .int (nI w))] := hl
                                  refine lv_aload_n hx hb dL_moon_457 rfl (lv_at hl 7 rfl) ?_
                                  refine lv_bipush (v := 20) hx hb dL_moon_458 (by decide) ?_
                                  refine lv_iload hx hb dL_moon_460 (lv_at hl 3 rfl) ?_
                                  refine lv_iload hx hb dL_moon_462 (lv_at hl 0 rfl) ?_
                                  refine lqSi (As := [.ref (v 0), .int (20), .int (nI sort), .int (nI n)]) (rest := []) ⟨hx, hb, hml, hown, hts⟩ (c_ask_isJustified l hl9 D T aK aV v B O g ln un nx pl f0 f1 f2 sort n N K C nt hOI (by omega) (by omega) _) (va_cwS 4 hts (gC gl_L_call_) rfl rfl rfl (by decide +kernel) ⟨Nat.le_of_ble_eq_true rfl, Nat.le_of_ble_eq_true rfl⟩) (Foc.rfl _ _) hC hNC hK hP hD hS hA rfl hl.1 rfl (Nat.le_of_ble_eq_true rfl) ⟨by show _ ≤ 6000; omega, by show _ ≤ 36000; omega⟩ dL_moon_464 (fun H locs hP hD hS => ?_)
                                  have hP : va_P D vwCl (WIN T v B O g ln un nx pl f0 f1 f2) H := hP
                                  have hD : va_D A (WIN T v B O g ln un nx pl f0 f1 f2) := hD
                                  refine endI (r := 1) (by rw [hJ]; rfl) ?_
                                  refine lv_istore (lv' := [(9, .int (1)), (8, .int (nI n)), (7, .int (nI f)), (6, .int (mm)), (5, .int (nI sort)), (4, .int (nI b)), (3, .int (1)), (2, .int (nI nt)), (0, .ref (v 0)), (1, .int (nI w))]) hx hb dL_moon_467 hl (by decide) rfl (fun ls hl => ?_)
                                  refine lv_iload hx hb dL_moon_469 (lv_at hl 1 rfl) ?_
                                  refine lv_iload_n hx hb dL_moon_471 rfl (lv_at hl 7 rfl) ?_
                                  refine lv_bipush (v := 28) hx hb dL_moon_472 (by decide) ?_
                                  refine lv_iadd hx hb dL_moon_474 ?_
                                  refine endI (r := nI (nt + 28)) (nI_add _ _) ?_
                                  refine lv_icmp_ge (tgt := 485) hx hb dL_moon_475 (by decide) (fun c475 => ?_) (fun c475 => ?_)
                                  ·
                                    have c475 : (nt + 28) ≤ n := (nI_leI (a := (nt + 28)) (b := n) (by omega) (by omega)).mp c475
                                    refine lv_iload hx hb dL_moon_485 (lv_at hl 0 rfl) ?_
                                    refine lv_iconst (v := 1) hx hb dL_moon_487 (by decide) ?_
                                    refine lv_icmp_ne (tgt := 500) hx hb dL_moon_488 (by decide) (fun c488 => ?_) (fun c488 => ?_)
                                    ·
                                      exact absurd c488 (by decide)
                                    ·
                                      refine lv_iload hx hb dL_moon_491 (lv_at hl 2 rfl) ?_
                                      refine lv_if_ge (tgt := 500) hx hb dL_moon_493 (by decide) (fun c493 => ?_) (fun c493 => ?_)
                                      ·
                                        have c493 : 0 ≤ f := (nI_leI (a := 0) (b := f) (by omega) (by omega)).mp c493
                                        refine lv_iload hx hb dL_moon_500 (lv_at hl 2 rfl) ?_
                                        refine lv_if_lt (tgt := 517) hx hb dL_moon_502 (by decide) (fun c502 => ?_) (fun c502 => ?_)
                                        ·
                                          have c502 : f < 0 := (nI_ltI (a := f) (b := 0) (by omega) (by omega)).mp c502
                                          exfalso; omega
                                        ·
                                          have c502 : ¬ f < 0 := fun h9 => c502 ((nI_ltI (a := f) (b := 0) (by omega) (by omega)).mpr h9)
                                          refine lv_iload hx hb dL_moon_505 (lv_at hl 1 rfl) ?_
                                          refine lv_iload_n hx hb dL_moon_507 rfl (lv_at hl 7 rfl) ?_
                                          refine lv_bipush (v := 28) hx hb dL_moon_508 (by decide) ?_
                                          refine lv_iadd hx hb dL_moon_510 ?_
                                          refine endI (r := nI (nt + 28)) (nI_add _ _) ?_
                                          refine lv_icmp_lt (tgt := 517) hx hb dL_moon_511 (by decide) (fun c511 => ?_) (fun c511 => ?_)
                                          ·
                                            have c511 : n < (nt + 28) := (nI_ltI (a := n) (b := (nt + 28)) (by omega) (by omega)).mp c511
                                            refine lv_iinc (v := nI (n + 1)) (lv' := [(8, .int (nI (n + 1))), (9, .int (1)), (7, .int (nI f)), (6, .int (mm)), (5, .int (nI sort)), (4, .int (nI b)), (3, .int (1)), (2, .int (nI nt)), (0, .ref (v 0)), (1, .int (nI w))]) hx hb dL_moon_517 hl (k := 1) rfl (nI_1 _) (by decide) rfl (fun ls hl => ?_)
                                            refine lv_goto (tgt := 447) hx hb dL_moon_520 (by decide) ?_
                                            exact ih447 (n + 1) mm (some f) _ _ (by omega) (by omega) (by omega) (by first | (rw [cntI_step (by omega), hJ] at hM; first | exact hM | (rw [show mm + 0 = mm from Int32.add_zero mm]; exact hM)) | (rw [cntI_done (by omega)] at hM ⊢; exact hM)) (by first | exact hF | (rw [← hF]; show _ = ffind _ _ _; rw [ffind_step (k := n) (by omega), hJ]; rfl)) (by intro f9 h9; first | (cases h9; omega) | exact hfo f9 h9 | (cases h9)) (by omega) (by omega) _ _ _ hP hD hS (lv_sub hl [0, 2, 3, 4, 5, 6, 7, 8, 9] rfl)
                                          ·
                                            have c511 : ¬ n < (nt + 28) := fun h9 => c511 ((nI_ltI (a := n) (b := (nt + 28)) (by omega) (by omega)).mpr h9)
                                            have hme : jcC (O 0) C nt sort = mm := by rw [← hM]; exact cntI_done (by omega)
                                            refine lv_goto (tgt := 523) hx hb dL_moon_514 (by decide) ?_
                                            refine lv_aload_n hx hb dL_moon_523 rfl (lv_at hl 8 rfl) ?_
                                            refine lv_bipush (v := 22) hx hb dL_moon_524 (by decide) ?_
                                            refine lv_iload hx hb dL_moon_526 (lv_at hl 4 rfl) ?_
                                            refine lqSi (As := [.ref (v 0), .int (22), .int (nI sort)]) (rest := []) ⟨hx, hb, hml, hown, hts⟩ (c_ask_justifiedNights l hl9 D T aK aV v B O g ln un nx pl f0 f1 f2 sort N K C nt hOI (by omega) _) (va_cwS 3 hts (gC gl_L_call__) rfl rfl rfl (by decide +kernel) ⟨Nat.le_of_ble_eq_true rfl, Nat.le_of_ble_eq_true rfl⟩) (Foc.rfl _ _) hC hNC hK hP hD hS hA rfl hl.1 rfl (Nat.le_of_ble_eq_true rfl) ⟨by show _ ≤ 6000; omega, by show _ ≤ 36000; omega⟩ dL_moon_528 (fun H locs hP hD hS => ?_)
                                            have hP : va_P D vwCl (WIN T v B O g ln un nx pl f0 f1 f2) H := hP
                                            have hD : va_D A (WIN T v B O g ln un nx pl f0 f1 f2) := hD
                                            refine endI (r := mm) (hme) ?_
                                            refine lv_iload hx hb dL_moon_531 (lv_at hl 3 rfl) ?_
                                            refine lv_icmp_ne (tgt := 553) hx hb dL_moon_533 (by decide) (fun c533 => ?_) (fun c533 => ?_)
                                            ·
                                              exact absurd rfl c533
                                            ·
                                              refine lv_aload_n hx hb dL_moon_536 rfl (lv_at hl 8 rfl) ?_
                                              refine lv_bipush (v := 21) hx hb dL_moon_537 (by decide) ?_
                                              refine lv_iload hx hb dL_moon_539 (lv_at hl 4 rfl) ?_
                                              refine lqSi (As := [.ref (v 0), .int (21), .int (nI sort)]) (rest := []) ⟨hx, hb, hml, hown, hts⟩ (c_ask_nextJustified l hl9 D T aK aV v B O g ln un nx pl f0 f1 f2 sort N K C nt hOI (by omega) _) (va_cwS 3 hts (gC gl_L_call__) rfl rfl rfl (by decide +kernel) ⟨Nat.le_of_ble_eq_true rfl, Nat.le_of_ble_eq_true rfl⟩) (Foc.rfl _ _) hC hNC hK hP hD hS hA rfl hl.1 rfl (Nat.le_of_ble_eq_true rfl) ⟨by show _ ≤ 6000; omega, by show _ ≤ 36000; omega⟩ dL_moon_541 (fun H locs hP hD hS => ?_)
                                              have hP : va_P D vwCl (WIN T v B O g ln un nx pl f0 f1 f2) H := hP
                                              have hD : va_D A (WIN T v B O g ln un nx pl f0 f1 f2) := hD
                                              refine endI (r := nI f) (by rw [← hF]; rfl) ?_
                                              refine lv_iload hx hb dL_moon_544 (lv_at hl 2 rfl) ?_
                                              refine lv_icmp_ne (tgt := 553) hx hb dL_moon_546 (by decide) (fun c546 => ?_) (fun c546 => ?_)
                                              ·
                                                exact absurd rfl c546
                                              ·
                                                refine lv_iconst (v := 1) hx hb dL_moon_549 (by decide) ?_
                                                refine lv_goto (tgt := 554) hx hb dL_moon_550 (by decide) ?_
                                                refine lv_istore_n (lv' := [(3, .int (1)), (9, .int (1)), (8, .int (nI n)), (7, .int (nI f)), (6, .int (mm)), (5, .int (nI sort)), (4, .int (nI b)), (2, .int (nI nt)), (0, .ref (v 0)), (1, .int (nI w))]) hx hb dL_moon_554 rfl hl (by decide) rfl (fun ls hl => ?_)
                                                refine lv_iload hx hb dL_moon_555 (lv_at hl 4 rfl) ?_
                                                refine lv_aload_n hx hb dL_moon_557 rfl (lv_at hl 8 rfl) ?_
                                                refine lv_bipush (v := 22) hx hb dL_moon_558 (by decide) ?_
                                                refine lv_iload hx hb dL_moon_560 (lv_at hl 6 rfl) ?_
                                                refine lqSi (As := [.ref (v 0), .int (22), .int (nI b)]) (rest := [.int (mm)]) ⟨hx, hb, hml, hown, hts⟩ (c_ask_justifiedNights l hl9 D T aK aV v B O g ln un nx pl f0 f1 f2 b N K C nt hOI (by omega) _) (va_cwS 3 hts (gC gl_L_call__) rfl rfl rfl (by decide +kernel) ⟨Nat.le_of_ble_eq_true rfl, Nat.le_of_ble_eq_true rfl⟩) (Foc.rfl _ _) hC hNC hK hP hD hS hA rfl hl.1 rfl (Nat.le_of_ble_eq_true rfl) ⟨by show _ ≤ 6000; omega, by show _ ≤ 36000; omega⟩ dL_moon_562 (fun H locs hP hD hS => ?_)
                                                have hP : va_P D vwCl (WIN T v B O g ln un nx pl f0 f1 f2) H := hP
                                                have hD : va_D A (WIN T v B O g ln un nx pl f0 f1 f2) := hD
                                                refine lv_icmp_le (tgt := 572) hx hb dL_moon_565 (by decide) (fun c565 => ?_) (fun c565 => ?_)
                                                ·
                                                  refine lv_iinc (v := nI (sort + 1)) (lv' := [(5, .int (nI (sort + 1))), (3, .int (1)), (9, .int (1)), (8, .int (nI n)), (7, .int (nI f)), (6, .int (mm)), (4, .int (nI b)), (2, .int (nI nt)), (0, .ref (v 0)), (1, .int (nI w))]) hx hb dL_moon_572 hl (k := 5) rfl (nI_1 _) (by decide) rfl (fun ls hl => ?_)
                                                  refine lv_goto (tgt := 427) hx hb dL_moon_575 (by decide) ?_
                                                  exact ih427 (sort + 1) b _ _ (by omega) (by omega) (by omega) (by rw [iter_step (by omega)] at hRb; unfold lkL at hRb ⊢; first | (rw [if_neg (by rw [hme]; exact Int32.not_lt.mpr c565)] at hRb; exact hRb) | (rw [if_pos (by rw [hme]; exact Int32.not_le.mp c565)] at hRb; exact hRb)) (by omega) (by omega) _ _ _ hP hD hS (lv_sub hl [0, 6, 1, 7, 8, 9] rfl)
                                                ·
                                                  refine lv_iload hx hb dL_moon_568 (lv_at hl 5 rfl) ?_
                                                  refine lv_istore (lv' := [(4, .int (nI sort)), (3, .int (1)), (9, .int (1)), (8, .int (nI n)), (7, .int (nI f)), (6, .int (mm)), (5, .int (nI sort)), (2, .int (nI nt)), (0, .ref (v 0)), (1, .int (nI w))]) hx hb dL_moon_570 hl (by decide) rfl (fun ls hl => ?_)
                                                  refine lv_iinc (v := nI (sort + 1)) (lv' := [(5, .int (nI (sort + 1))), (4, .int (nI sort)), (3, .int (1)), (9, .int (1)), (8, .int (nI n)), (7, .int (nI f)), (6, .int (mm)), (2, .int (nI nt)), (0, .ref (v 0)), (1, .int (nI w))]) hx hb dL_moon_572 hl (k := 6) rfl (nI_1 _) (by decide) rfl (fun ls hl => ?_)
                                                  refine lv_goto (tgt := 427) hx hb dL_moon_575 (by decide) ?_
                                                  exact ih427 (sort + 1) sort _ _ (by omega) (by omega) (by omega) (by rw [iter_step (by omega)] at hRb; unfold lkL at hRb ⊢; first | (rw [if_neg (by rw [hme]; exact Int32.not_lt.mpr c565)] at hRb; exact hRb) | (rw [if_pos (by rw [hme]; exact Int32.not_le.mp c565)] at hRb; exact hRb)) (by omega) (by omega) _ _ _ hP hD hS (lv_sub hl [0, 1, 2, 7, 8, 9] rfl)
                                      ·
                                        have c493 : ¬ 0 ≤ f := fun h9 => c493 ((nI_leI (a := 0) (b := f) (by omega) (by omega)).mpr h9)
                                        exfalso; omega
                                  ·
                                    have c475 : ¬ (nt + 28) ≤ n := fun h9 => c475 ((nI_leI (a := (nt + 28)) (b := n) (by omega) (by omega)).mpr h9)
                                    refine lv_iload hx hb dL_moon_478 (lv_at hl 3 rfl) ?_
                                    refine lv_iload hx hb dL_moon_480 (lv_at hl 0 rfl) ?_
                                    refine lv_iadd hx hb dL_moon_482 ?_
                                    refine lv_istore (lv' := [(6, .int (mm + 1)), (9, .int (1)), (8, .int (nI n)), (7, .int (nI f)), (5, .int (nI sort)), (4, .int (nI b)), (3, .int (1)), (2, .int (nI nt)), (0, .ref (v 0)), (1, .int (nI w))]) hx hb dL_moon_483 hl (by decide) rfl (fun ls hl => ?_)
                                    refine lv_iload hx hb dL_moon_485 (lv_at hl 1 rfl) ?_
                                    refine lv_iconst (v := 1) hx hb dL_moon_487 (by decide) ?_
                                    refine lv_icmp_ne (tgt := 500) hx hb dL_moon_488 (by decide) (fun c488 => ?_) (fun c488 => ?_)
                                    ·
                                      exact absurd c488 (by decide)
                                    ·
                                      refine lv_iload hx hb dL_moon_491 (lv_at hl 3 rfl) ?_
                                      refine lv_if_ge (tgt := 500) hx hb dL_moon_493 (by decide) (fun c493 => ?_) (fun c493 => ?_)
                                      ·
                                        have c493 : 0 ≤ f := (nI_leI (a := 0) (b := f) (by omega) (by omega)).mp c493
                                        refine lv_iload hx hb dL_moon_500 (lv_at hl 3 rfl) ?_
                                        refine lv_if_lt (tgt := 517) hx hb dL_moon_502 (by decide) (fun c502 => ?_) (fun c502 => ?_)
                                        ·
                                          have c502 : f < 0 := (nI_ltI (a := f) (b := 0) (by omega) (by omega)).mp c502
                                          exfalso; omega
                                        ·
                                          have c502 : ¬ f < 0 := fun h9 => c502 ((nI_ltI (a := f) (b := 0) (by omega) (by omega)).mpr h9)
                                          refine lv_iload hx hb dL_moon_505 (lv_at hl 2 rfl) ?_
                                          refine lv_iload_n hx hb dL_moon_507 rfl (lv_at hl 7 rfl) ?_
                                          refine lv_bipush (v := 28) hx hb dL_moon_508 (by decide) ?_
                                          refine lv_iadd hx hb dL_moon_510 ?_
                                          refine endI (r := nI (nt + 28)) (nI_add _ _) ?_
                                          refine lv_icmp_lt (tgt := 517) hx hb dL_moon_511 (by decide) (fun c511 => ?_) (fun c511 => ?_)
                                          ·
                                            have c511 : n < (nt + 28) := (nI_ltI (a := n) (b := (nt + 28)) (by omega) (by omega)).mp c511
                                            refine lv_iinc (v := nI (n + 1)) (lv' := [(8, .int (nI (n + 1))), (6, .int (mm + 1)), (9, .int (1)), (7, .int (nI f)), (5, .int (nI sort)), (4, .int (nI b)), (3, .int (1)), (2, .int (nI nt)), (0, .ref (v 0)), (1, .int (nI w))]) hx hb dL_moon_517 hl (k := 2) rfl (nI_1 _) (by decide) rfl (fun ls hl => ?_)
                                            refine lv_goto (tgt := 447) hx hb dL_moon_520 (by decide) ?_
                                            exact ih447 (n + 1) (mm + 1) (some f) _ _ (by omega) (by omega) (by omega) (by first | (rw [cntI_step (by omega), hJ] at hM; first | exact hM | (rw [show mm + 0 = mm from Int32.add_zero mm]; exact hM)) | (rw [cntI_done (by omega)] at hM ⊢; exact hM)) (by first | exact hF | (rw [← hF]; show _ = ffind _ _ _; rw [ffind_step (k := n) (by omega), hJ]; rfl)) (by intro f9 h9; first | (cases h9; omega) | exact hfo f9 h9 | (cases h9)) (by omega) (by omega) _ _ _ hP hD hS (lv_sub hl [0, 3, 1, 4, 5, 6, 7, 8, 9] rfl)
                                          ·
                                            have c511 : ¬ n < (nt + 28) := fun h9 => c511 ((nI_ltI (a := n) (b := (nt + 28)) (by omega) (by omega)).mpr h9)
                                            have hme : jcC (O 0) C nt sort = mm := by rw [← hM]; exact cntI_done (by omega)
                                            exfalso; omega
                                      ·
                                        have c493 : ¬ 0 ≤ f := fun h9 => c493 ((nI_leI (a := 0) (b := f) (by omega) (by omega)).mpr h9)
                                        exfalso; omega
                                ·
                                  have hl : lv_has ls 11 [(8, .int (nI n)), (7, .int (-101)), (6, .int (mm)), (5, .int (nI sort)), (4, .int (nI b)), (3, .int (1)), (2, .int (nI nt)), (0, .ref (v 0)), (1, .int (nI w))] := hl
                                  refine lv_aload_n hx hb dL_moon_457 rfl (lv_at hl 7 rfl) ?_
                                  refine lv_bipush (v := 20) hx hb dL_moon_458 (by decide) ?_
                                  refine lv_iload hx hb dL_moon_460 (lv_at hl 3 rfl) ?_
                                  refine lv_iload hx hb dL_moon_462 (lv_at hl 0 rfl) ?_
                                  refine lqSi (As := [.ref (v 0), .int (20), .int (nI sort), .int (nI n)]) (rest := []) ⟨hx, hb, hml, hown, hts⟩ (c_ask_isJustified l hl9 D T aK aV v B O g ln un nx pl f0 f1 f2 sort n N K C nt hOI (by omega) (by omega) _) (va_cwS 4 hts (gC gl_L_call_) rfl rfl rfl (by decide +kernel) ⟨Nat.le_of_ble_eq_true rfl, Nat.le_of_ble_eq_true rfl⟩) (Foc.rfl _ _) hC hNC hK hP hD hS hA rfl hl.1 rfl (Nat.le_of_ble_eq_true rfl) ⟨by show _ ≤ 6000; omega, by show _ ≤ 36000; omega⟩ dL_moon_464 (fun H locs hP hD hS => ?_)
                                  have hP : va_P D vwCl (WIN T v B O g ln un nx pl f0 f1 f2) H := hP
                                  have hD : va_D A (WIN T v B O g ln un nx pl f0 f1 f2) := hD
                                  refine endI (r := 0) (by rw [hJ]; rfl) ?_
                                  refine lv_istore (lv' := [(9, .int (0)), (8, .int (nI n)), (7, .int (-101)), (6, .int (mm)), (5, .int (nI sort)), (4, .int (nI b)), (3, .int (1)), (2, .int (nI nt)), (0, .ref (v 0)), (1, .int (nI w))]) hx hb dL_moon_467 hl (by decide) rfl (fun ls hl => ?_)
                                  refine lv_iload hx hb dL_moon_469 (lv_at hl 1 rfl) ?_
                                  refine lv_iload_n hx hb dL_moon_471 rfl (lv_at hl 7 rfl) ?_
                                  refine lv_bipush (v := 28) hx hb dL_moon_472 (by decide) ?_
                                  refine lv_iadd hx hb dL_moon_474 ?_
                                  refine endI (r := nI (nt + 28)) (nI_add _ _) ?_
                                  refine lv_icmp_ge (tgt := 485) hx hb dL_moon_475 (by decide) (fun c475 => ?_) (fun c475 => ?_)
                                  ·
                                    have c475 : (nt + 28) ≤ n := (nI_leI (a := (nt + 28)) (b := n) (by omega) (by omega)).mp c475
                                    refine lv_iload hx hb dL_moon_485 (lv_at hl 0 rfl) ?_
                                    refine lv_iconst (v := 1) hx hb dL_moon_487 (by decide) ?_
                                    refine lv_icmp_ne (tgt := 500) hx hb dL_moon_488 (by decide) (fun c488 => ?_) (fun c488 => ?_)
                                    ·
                                      refine lv_iload hx hb dL_moon_500 (lv_at hl 2 rfl) ?_
                                      refine lv_if_lt (tgt := 517) hx hb dL_moon_502 (by decide) (fun c502 => ?_) (fun c502 => ?_)
                                      ·
                                        refine lv_iinc (v := nI (n + 1)) (lv' := [(8, .int (nI (n + 1))), (9, .int (0)), (7, .int (-101)), (6, .int (mm)), (5, .int (nI sort)), (4, .int (nI b)), (3, .int (1)), (2, .int (nI nt)), (0, .ref (v 0)), (1, .int (nI w))]) hx hb dL_moon_517 hl (k := 1) rfl (nI_1 _) (by decide) rfl (fun ls hl => ?_)
                                        refine lv_goto (tgt := 447) hx hb dL_moon_520 (by decide) ?_
                                        exact ih447 (n + 1) mm none _ _ (by omega) (by omega) (by omega) (by first | (rw [cntI_step (by omega), hJ] at hM; first | exact hM | (rw [show mm + 0 = mm from Int32.add_zero mm]; exact hM)) | (rw [cntI_done (by omega)] at hM ⊢; exact hM)) (by first | exact hF | (rw [← hF]; show _ = ffind _ _ _; rw [ffind_step (k := n) (by omega), hJ]; rfl)) (by intro f9 h9; first | (cases h9; omega) | exact hfo f9 h9 | (cases h9)) (by omega) (by omega) _ _ _ hP hD hS (lv_sub hl [0, 2, 3, 4, 5, 6, 7, 8, 9] rfl)
                                      ·
                                        exact absurd c502 (by decide)
                                    ·
                                      exact absurd c488 (by decide)
                                  ·
                                    have c475 : ¬ (nt + 28) ≤ n := fun h9 => c475 ((nI_leI (a := (nt + 28)) (b := n) (by omega) (by omega)).mpr h9)
                                    refine lv_iload hx hb dL_moon_478 (lv_at hl 3 rfl) ?_
                                    refine lv_iload hx hb dL_moon_480 (lv_at hl 0 rfl) ?_
                                    refine lv_iadd hx hb dL_moon_482 ?_
                                    refine lv_istore (lv' := [(6, .int (mm + 0)), (9, .int (0)), (8, .int (nI n)), (7, .int (-101)), (5, .int (nI sort)), (4, .int (nI b)), (3, .int (1)), (2, .int (nI nt)), (0, .ref (v 0)), (1, .int (nI w))]) hx hb dL_moon_483 hl (by decide) rfl (fun ls hl => ?_)
                                    refine lv_iload hx hb dL_moon_485 (lv_at hl 1 rfl) ?_
                                    refine lv_iconst (v := 1) hx hb dL_moon_487 (by decide) ?_
                                    refine lv_icmp_ne (tgt := 500) hx hb dL_moon_488 (by decide) (fun c488 => ?_) (fun c488 => ?_)
                                    ·
                                      refine lv_iload hx hb dL_moon_500 (lv_at hl 3 rfl) ?_
                                      refine lv_if_lt (tgt := 517) hx hb dL_moon_502 (by decide) (fun c502 => ?_) (fun c502 => ?_)
                                      ·
                                        refine lv_iinc (v := nI (n + 1)) (lv' := [(8, .int (nI (n + 1))), (6, .int (mm + 0)), (9, .int (0)), (7, .int (-101)), (5, .int (nI sort)), (4, .int (nI b)), (3, .int (1)), (2, .int (nI nt)), (0, .ref (v 0)), (1, .int (nI w))]) hx hb dL_moon_517 hl (k := 2) rfl (nI_1 _) (by decide) rfl (fun ls hl => ?_)
                                        refine lv_goto (tgt := 447) hx hb dL_moon_520 (by decide) ?_
                                        exact ih447 (n + 1) (mm + 0) none _ _ (by omega) (by omega) (by omega) (by first | (rw [cntI_step (by omega), hJ] at hM; first | exact hM | (rw [show mm + 0 = mm from Int32.add_zero mm]; exact hM)) | (rw [cntI_done (by omega)] at hM ⊢; exact hM)) (by first | exact hF | (rw [← hF]; show _ = ffind _ _ _; rw [ffind_step (k := n) (by omega), hJ]; rfl)) (by intro f9 h9; first | (cases h9; omega) | exact hfo f9 h9 | (cases h9)) (by omega) (by omega) _ _ _ hP hD hS (lv_sub hl [0, 3, 1, 4, 5, 6, 7, 8, 9] rfl)
                                      ·
                                        exact absurd c502 (by decide)
                                    ·
                                      exact absurd c488 (by decide)
                                ·
                                  have hf9 := hfo f rfl
                                  have hl : lv_has ls 11 [(8, .int (nI n)), (7, .int (nI f)), (6, .int (mm)), (5, .int (nI sort)), (4, .int (nI b)), (3, .int (1)), (2, .int (nI nt)), (0, .ref (v 0)), (1, .int (nI w))] := hl
                                  refine lv_aload_n hx hb dL_moon_457 rfl (lv_at hl 7 rfl) ?_
                                  refine lv_bipush (v := 20) hx hb dL_moon_458 (by decide) ?_
                                  refine lv_iload hx hb dL_moon_460 (lv_at hl 3 rfl) ?_
                                  refine lv_iload hx hb dL_moon_462 (lv_at hl 0 rfl) ?_
                                  refine lqSi (As := [.ref (v 0), .int (20), .int (nI sort), .int (nI n)]) (rest := []) ⟨hx, hb, hml, hown, hts⟩ (c_ask_isJustified l hl9 D T aK aV v B O g ln un nx pl f0 f1 f2 sort n N K C nt hOI (by omega) (by omega) _) (va_cwS 4 hts (gC gl_L_call_) rfl rfl rfl (by decide +kernel) ⟨Nat.le_of_ble_eq_true rfl, Nat.le_of_ble_eq_true rfl⟩) (Foc.rfl _ _) hC hNC hK hP hD hS hA rfl hl.1 rfl (Nat.le_of_ble_eq_true rfl) ⟨by show _ ≤ 6000; omega, by show _ ≤ 36000; omega⟩ dL_moon_464 (fun H locs hP hD hS => ?_)
                                  have hP : va_P D vwCl (WIN T v B O g ln un nx pl f0 f1 f2) H := hP
                                  have hD : va_D A (WIN T v B O g ln un nx pl f0 f1 f2) := hD
                                  refine endI (r := 0) (by rw [hJ]; rfl) ?_
                                  refine lv_istore (lv' := [(9, .int (0)), (8, .int (nI n)), (7, .int (nI f)), (6, .int (mm)), (5, .int (nI sort)), (4, .int (nI b)), (3, .int (1)), (2, .int (nI nt)), (0, .ref (v 0)), (1, .int (nI w))]) hx hb dL_moon_467 hl (by decide) rfl (fun ls hl => ?_)
                                  refine lv_iload hx hb dL_moon_469 (lv_at hl 1 rfl) ?_
                                  refine lv_iload_n hx hb dL_moon_471 rfl (lv_at hl 7 rfl) ?_
                                  refine lv_bipush (v := 28) hx hb dL_moon_472 (by decide) ?_
                                  refine lv_iadd hx hb dL_moon_474 ?_
                                  refine endI (r := nI (nt + 28)) (nI_add _ _) ?_
                                  refine lv_icmp_ge (tgt := 485) hx hb dL_moon_475 (by decide) (fun c475 => ?_) (fun c475 => ?_)
                                  ·
                                    have c475 : (nt + 28) ≤ n := (nI_leI (a := (nt + 28)) (b := n) (by omega) (by omega)).mp c475
                                    refine lv_iload hx hb dL_moon_485 (lv_at hl 0 rfl) ?_
                                    refine lv_iconst (v := 1) hx hb dL_moon_487 (by decide) ?_
                                    refine lv_icmp_ne (tgt := 500) hx hb dL_moon_488 (by decide) (fun c488 => ?_) (fun c488 => ?_)
                                    ·
                                      refine lv_iload hx hb dL_moon_500 (lv_at hl 2 rfl) ?_
                                      refine lv_if_lt (tgt := 517) hx hb dL_moon_502 (by decide) (fun c502 => ?_) (fun c502 => ?_)
                                      ·
                                        have c502 : f < 0 := (nI_ltI (a := f) (b := 0) (by omega) (by omega)).mp c502
                                        exfalso; omega
                                      ·
                                        have c502 : ¬ f < 0 := fun h9 => c502 ((nI_ltI (a := f) (b := 0) (by omega) (by omega)).mpr h9)
                                        refine lv_iload hx hb dL_moon_505 (lv_at hl 1 rfl) ?_
                                        refine lv_iload_n hx hb dL_moon_507 rfl (lv_at hl 7 rfl) ?_
                                        refine lv_bipush (v := 28) hx hb dL_moon_508 (by decide) ?_
                                        refine lv_iadd hx hb dL_moon_510 ?_
                                        refine endI (r := nI (nt + 28)) (nI_add _ _) ?_
                                        refine lv_icmp_lt (tgt := 517) hx hb dL_moon_511 (by decide) (fun c511 => ?_) (fun c511 => ?_)
                                        ·
                                          have c511 : n < (nt + 28) := (nI_ltI (a := n) (b := (nt + 28)) (by omega) (by omega)).mp c511
                                          refine lv_iinc (v := nI (n + 1)) (lv' := [(8, .int (nI (n + 1))), (9, .int (0)), (7, .int (nI f)), (6, .int (mm)), (5, .int (nI sort)), (4, .int (nI b)), (3, .int (1)), (2, .int (nI nt)), (0, .ref (v 0)), (1, .int (nI w))]) hx hb dL_moon_517 hl (k := 1) rfl (nI_1 _) (by decide) rfl (fun ls hl => ?_)
                                          refine lv_goto (tgt := 447) hx hb dL_moon_520 (by decide) ?_
                                          exact ih447 (n + 1) mm (some f) _ _ (by omega) (by omega) (by omega) (by first | (rw [cntI_step (by omega), hJ] at hM; first | exact hM | (rw [show mm + 0 = mm from Int32.add_zero mm]; exact hM)) | (rw [cntI_done (by omega)] at hM ⊢; exact hM)) (by first | exact hF | (rw [← hF]; show _ = ffind _ _ _; rw [ffind_step (k := n) (by omega), hJ]; rfl)) (by intro f9 h9; first | (cases h9; omega) | exact hfo f9 h9 | (cases h9)) (by omega) (by omega) _ _ _ hP hD hS (lv_sub hl [0, 2, 3, 4, 5, 6, 7, 8, 9] rfl)
                                        ·
                                          have c511 : ¬ n < (nt + 28) := fun h9 => c511 ((nI_ltI (a := n) (b := (nt + 28)) (by omega) (by omega)).mpr h9)
                                          have hme : jcC (O 0) C nt sort = mm := by rw [← hM]; exact cntI_done (by omega)
                                          refine lv_goto (tgt := 523) hx hb dL_moon_514 (by decide) ?_
                                          refine lv_aload_n hx hb dL_moon_523 rfl (lv_at hl 8 rfl) ?_
                                          refine lv_bipush (v := 22) hx hb dL_moon_524 (by decide) ?_
                                          refine lv_iload hx hb dL_moon_526 (lv_at hl 4 rfl) ?_
                                          refine lqSi (As := [.ref (v 0), .int (22), .int (nI sort)]) (rest := []) ⟨hx, hb, hml, hown, hts⟩ (c_ask_justifiedNights l hl9 D T aK aV v B O g ln un nx pl f0 f1 f2 sort N K C nt hOI (by omega) _) (va_cwS 3 hts (gC gl_L_call__) rfl rfl rfl (by decide +kernel) ⟨Nat.le_of_ble_eq_true rfl, Nat.le_of_ble_eq_true rfl⟩) (Foc.rfl _ _) hC hNC hK hP hD hS hA rfl hl.1 rfl (Nat.le_of_ble_eq_true rfl) ⟨by show _ ≤ 6000; omega, by show _ ≤ 36000; omega⟩ dL_moon_528 (fun H locs hP hD hS => ?_)
                                          have hP : va_P D vwCl (WIN T v B O g ln un nx pl f0 f1 f2) H := hP
                                          have hD : va_D A (WIN T v B O g ln un nx pl f0 f1 f2) := hD
                                          refine endI (r := mm) (hme) ?_
                                          refine lv_iload hx hb dL_moon_531 (lv_at hl 3 rfl) ?_
                                          refine lv_icmp_ne (tgt := 553) hx hb dL_moon_533 (by decide) (fun c533 => ?_) (fun c533 => ?_)
                                          ·
                                            exact absurd rfl c533
                                          ·
                                            refine lv_aload_n hx hb dL_moon_536 rfl (lv_at hl 8 rfl) ?_
                                            refine lv_bipush (v := 21) hx hb dL_moon_537 (by decide) ?_
                                            refine lv_iload hx hb dL_moon_539 (lv_at hl 4 rfl) ?_
                                            refine lqSi (As := [.ref (v 0), .int (21), .int (nI sort)]) (rest := []) ⟨hx, hb, hml, hown, hts⟩ (c_ask_nextJustified l hl9 D T aK aV v B O g ln un nx pl f0 f1 f2 sort N K C nt hOI (by omega) _) (va_cwS 3 hts (gC gl_L_call__) rfl rfl rfl (by decide +kernel) ⟨Nat.le_of_ble_eq_true rfl, Nat.le_of_ble_eq_true rfl⟩) (Foc.rfl _ _) hC hNC hK hP hD hS hA rfl hl.1 rfl (Nat.le_of_ble_eq_true rfl) ⟨by show _ ≤ 6000; omega, by show _ ≤ 36000; omega⟩ dL_moon_541 (fun H locs hP hD hS => ?_)
                                            have hP : va_P D vwCl (WIN T v B O g ln un nx pl f0 f1 f2) H := hP
                                            have hD : va_D A (WIN T v B O g ln un nx pl f0 f1 f2) := hD
                                            refine endI (r := nI f) (by rw [← hF]; rfl) ?_
                                            refine lv_iload hx hb dL_moon_544 (lv_at hl 2 rfl) ?_
                                            refine lv_icmp_ne (tgt := 553) hx hb dL_moon_546 (by decide) (fun c546 => ?_) (fun c546 => ?_)
                                            ·
                                              exact absurd rfl c546
                                            ·
                                              refine lv_iconst (v := 1) hx hb dL_moon_549 (by decide) ?_
                                              refine lv_goto (tgt := 554) hx hb dL_moon_550 (by decide) ?_
                                              refine lv_istore_n (lv' := [(3, .int (1)), (9, .int (0)), (8, .int (nI n)), (7, .int (nI f)), (6, .int (mm)), (5, .int (nI sort)), (4, .int (nI b)), (2, .int (nI nt)), (0, .ref (v 0)), (1, .int (nI w))]) hx hb dL_moon_554 rfl hl (by decide) rfl (fun ls hl => ?_)
                                              refine lv_iload hx hb dL_moon_555 (lv_at hl 4 rfl) ?_
                                              refine lv_aload_n hx hb dL_moon_557 rfl (lv_at hl 8 rfl) ?_
                                              refine lv_bipush (v := 22) hx hb dL_moon_558 (by decide) ?_
                                              refine lv_iload hx hb dL_moon_560 (lv_at hl 6 rfl) ?_
                                              refine lqSi (As := [.ref (v 0), .int (22), .int (nI b)]) (rest := [.int (mm)]) ⟨hx, hb, hml, hown, hts⟩ (c_ask_justifiedNights l hl9 D T aK aV v B O g ln un nx pl f0 f1 f2 b N K C nt hOI (by omega) _) (va_cwS 3 hts (gC gl_L_call__) rfl rfl rfl (by decide +kernel) ⟨Nat.le_of_ble_eq_true rfl, Nat.le_of_ble_eq_true rfl⟩) (Foc.rfl _ _) hC hNC hK hP hD hS hA rfl hl.1 rfl (Nat.le_of_ble_eq_true rfl) ⟨by show _ ≤ 6000; omega, by show _ ≤ 36000; omega⟩ dL_moon_562 (fun H locs hP hD hS => ?_)
                                              have hP : va_P D vwCl (WIN T v B O g ln un nx pl f0 f1 f2) H := hP
                                              have hD : va_D A (WIN T v B O g ln un nx pl f0 f1 f2) := hD
                                              refine lv_icmp_le (tgt := 572) hx hb dL_moon_565 (by decide) (fun c565 => ?_) (fun c565 => ?_)
                                              ·
                                                refine lv_iinc (v := nI (sort + 1)) (lv' := [(5, .int (nI (sort + 1))), (3, .int (1)), (9, .int (0)), (8, .int (nI n)), (7, .int (nI f)), (6, .int (mm)), (4, .int (nI b)), (2, .int (nI nt)), (0, .ref (v 0)), (1, .int (nI w))]) hx hb dL_moon_572 hl (k := 5) rfl (nI_1 _) (by decide) rfl (fun ls hl => ?_)
                                                refine lv_goto (tgt := 427) hx hb dL_moon_575 (by decide) ?_
                                                exact ih427 (sort + 1) b _ _ (by omega) (by omega) (by omega) (by rw [iter_step (by omega)] at hRb; unfold lkL at hRb ⊢; first | (rw [if_neg (by rw [hme]; exact Int32.not_lt.mpr c565)] at hRb; exact hRb) | (rw [if_pos (by rw [hme]; exact Int32.not_le.mp c565)] at hRb; exact hRb)) (by omega) (by omega) _ _ _ hP hD hS (lv_sub hl [0, 6, 1, 7, 8, 9] rfl)
                                              ·
                                                refine lv_iload hx hb dL_moon_568 (lv_at hl 5 rfl) ?_
                                                refine lv_istore (lv' := [(4, .int (nI sort)), (3, .int (1)), (9, .int (0)), (8, .int (nI n)), (7, .int (nI f)), (6, .int (mm)), (5, .int (nI sort)), (2, .int (nI nt)), (0, .ref (v 0)), (1, .int (nI w))]) hx hb dL_moon_570 hl (by decide) rfl (fun ls hl => ?_)
                                                refine lv_iinc (v := nI (sort + 1)) (lv' := [(5, .int (nI (sort + 1))), (4, .int (nI sort)), (3, .int (1)), (9, .int (0)), (8, .int (nI n)), (7, .int (nI f)), (6, .int (mm)), (2, .int (nI nt)), (0, .ref (v 0)), (1, .int (nI w))]) hx hb dL_moon_572 hl (k := 6) rfl (nI_1 _) (by decide) rfl (fun ls hl => ?_)
                                                refine lv_goto (tgt := 427) hx hb dL_moon_575 (by decide) ?_
                                                exact ih427 (sort + 1) sort _ _ (by omega) (by omega) (by omega) (by rw [iter_step (by omega)] at hRb; unfold lkL at hRb ⊢; first | (rw [if_neg (by rw [hme]; exact Int32.not_lt.mpr c565)] at hRb; exact hRb) | (rw [if_pos (by rw [hme]; exact Int32.not_le.mp c565)] at hRb; exact hRb)) (by omega) (by omega) _ _ _ hP hD hS (lv_sub hl [0, 1, 2, 7, 8, 9] rfl)
                                    ·
                                      exact absurd c488 (by decide)
                                  ·
                                    have c475 : ¬ (nt + 28) ≤ n := fun h9 => c475 ((nI_leI (a := (nt + 28)) (b := n) (by omega) (by omega)).mpr h9)
                                    refine lv_iload hx hb dL_moon_478 (lv_at hl 3 rfl) ?_
                                    refine lv_iload hx hb dL_moon_480 (lv_at hl 0 rfl) ?_
                                    refine lv_iadd hx hb dL_moon_482 ?_
                                    refine lv_istore (lv' := [(6, .int (mm + 0)), (9, .int (0)), (8, .int (nI n)), (7, .int (nI f)), (5, .int (nI sort)), (4, .int (nI b)), (3, .int (1)), (2, .int (nI nt)), (0, .ref (v 0)), (1, .int (nI w))]) hx hb dL_moon_483 hl (by decide) rfl (fun ls hl => ?_)
                                    refine lv_iload hx hb dL_moon_485 (lv_at hl 1 rfl) ?_
                                    refine lv_iconst (v := 1) hx hb dL_moon_487 (by decide) ?_
                                    refine lv_icmp_ne (tgt := 500) hx hb dL_moon_488 (by decide) (fun c488 => ?_) (fun c488 => ?_)
                                    ·
                                      refine lv_iload hx hb dL_moon_500 (lv_at hl 3 rfl) ?_
                                      refine lv_if_lt (tgt := 517) hx hb dL_moon_502 (by decide) (fun c502 => ?_) (fun c502 => ?_)
                                      ·
                                        have c502 : f < 0 := (nI_ltI (a := f) (b := 0) (by omega) (by omega)).mp c502
                                        exfalso; omega
                                      ·
                                        have c502 : ¬ f < 0 := fun h9 => c502 ((nI_ltI (a := f) (b := 0) (by omega) (by omega)).mpr h9)
                                        refine lv_iload hx hb dL_moon_505 (lv_at hl 2 rfl) ?_
                                        refine lv_iload_n hx hb dL_moon_507 rfl (lv_at hl 7 rfl) ?_
                                        refine lv_bipush (v := 28) hx hb dL_moon_508 (by decide) ?_
                                        refine lv_iadd hx hb dL_moon_510 ?_
                                        refine endI (r := nI (nt + 28)) (nI_add _ _) ?_
                                        refine lv_icmp_lt (tgt := 517) hx hb dL_moon_511 (by decide) (fun c511 => ?_) (fun c511 => ?_)
                                        ·
                                          have c511 : n < (nt + 28) := (nI_ltI (a := n) (b := (nt + 28)) (by omega) (by omega)).mp c511
                                          refine lv_iinc (v := nI (n + 1)) (lv' := [(8, .int (nI (n + 1))), (6, .int (mm + 0)), (9, .int (0)), (7, .int (nI f)), (5, .int (nI sort)), (4, .int (nI b)), (3, .int (1)), (2, .int (nI nt)), (0, .ref (v 0)), (1, .int (nI w))]) hx hb dL_moon_517 hl (k := 2) rfl (nI_1 _) (by decide) rfl (fun ls hl => ?_)
                                          refine lv_goto (tgt := 447) hx hb dL_moon_520 (by decide) ?_
                                          exact ih447 (n + 1) (mm + 0) (some f) _ _ (by omega) (by omega) (by omega) (by first | (rw [cntI_step (by omega), hJ] at hM; first | exact hM | (rw [show mm + 0 = mm from Int32.add_zero mm]; exact hM)) | (rw [cntI_done (by omega)] at hM ⊢; exact hM)) (by first | exact hF | (rw [← hF]; show _ = ffind _ _ _; rw [ffind_step (k := n) (by omega), hJ]; rfl)) (by intro f9 h9; first | (cases h9; omega) | exact hfo f9 h9 | (cases h9)) (by omega) (by omega) _ _ _ hP hD hS (lv_sub hl [0, 3, 1, 4, 5, 6, 7, 8, 9] rfl)
                                        ·
                                          have c511 : ¬ n < (nt + 28) := fun h9 => c511 ((nI_ltI (a := n) (b := (nt + 28)) (by omega) (by omega)).mpr h9)
                                          have hme : jcC (O 0) C nt sort = mm := by rw [← hM]; exact cntI_done (by omega)
                                          exfalso; omega
                                    ·
                                      exact absurd c488 (by decide)
                          exact L447 _ nt 0 none _ _ (Nat.lt_succ_self _) (by omega) (by omega) (by rw [Nat.add_sub_cancel_left]; unfold jcC; rw [Nat.add_sub_cancel_left]) (by unfold nextC; rfl) (by intro f h; cases h) (by omega) (by omega) _ _ _ hP hD hS (lv_sub hl [0, 1, 2, 3, 4, 5, 6, 7, 8] rfl)
                  exact L427 _ 0 0 _ _ (Nat.lt_succ_self _) (by omega) (by omega) (by rfl) (by omega) (by omega) _ _ _ hP hD hS (lv_sub hl [0, 1, 2, 3, 4, 5] rfl)
                ·
                  have c69 : ¬ 30 ≤ q := fun h9 => c69 ((nI_leI (a := 30) (b := q) (by omega) (by omega)).mpr h9)
                  refine lv_iload_n hx hb dL_moon_72 rfl (lv_at hl 1 rfl) ?_
                  refine lv_if_eq (tgt := 421) hx hb dL_moon_73 (by decide) (fun c73 => ?_) (fun c73 => ?_)
                  ·
                    exact absurd c73 (by decide)
                  ·
                    obtain ⟨n, hnE, hn19⟩ : ∃ n, n = moonN w nt q ∧ n < 1900 := ⟨_, rfl, moonN_lt hnt2 (by omega)⟩
                    have J76 : W p l e ({ frames := 12, cells := 6000, slots := 36000, locals := 265 } : Room) s m args below meth c H locs (cb1) (sb1) Q (F0 m 102 ls [.int (nI n)]) := by
                      refine lv_istore (lv' := [(5, .int (nI n)), (4, .int (nI q)), (3, .int (1)), (2, .int (nI nt)), (0, .ref (v 0)), (1, .int (nI w))]) hx hb dL_moon_102 hl (by decide) rfl (fun ls hl => ?_)
                      obtain ⟨z, hz, hze⟩ := hcl (n % C) (Nat.mod_lt _ hC1)
                      obtain ⟨u, hu⟩ : ∃ u, u = lightN n * (10 - z) / 10 := ⟨_, rfl⟩
                      have hul : u ≤ lightN n := by rw [hu]; exact vis_le n hz
                      have hvE : visI n ((O 0) 1 (n % C)) = nI u := by rw [hze, hu]; exact visN n hz
                      have hl14 := lightN_le n
                      have ht7 : tideN n ≤ 7 := by unfold tideN; split <;> omega
                      have hnC : n + C < 2000 := by omega
                      have hj0 : justB 0 ((O 0) 0 1) ((O 0) 0 2) ((O 0) 0 3) n ((O 0) 1 (n % C)) = decide ((O 0) 0 1 ≤ nI u) := by rw [← hvE]; rfl
                      have hj1 : justB 1 ((O 0) 0 1) ((O 0) 0 2) ((O 0) 0 3) n ((O 0) 1 (n % C)) = decide (nI u ≤ (O 0) 0 2) := by rw [← hvE]; rfl
                      have hj2 : justB 2 ((O 0) 0 1) ((O 0) 0 2) ((O 0) 0 3) n ((O 0) 1 (n % C)) = decide ((O 0) 0 3 ≤ nI (tideN n)) := rfl
                      have hj3 : justB 3 ((O 0) 0 1) ((O 0) 0 2) ((O 0) 0 3) n ((O 0) 1 (n % C)) = (decide (4 ≤ lightN n) && decide (z ≤ 2)) := by
                          rw [show justB 3 ((O 0) 0 1) ((O 0) 0 2) ((O 0) 0 3) n ((O 0) 1 (n % C)) = (decide (4 ≤ nI (lightN n)) && decide ((O 0) 1 (n % C) ≤ 2)) from rfl, hze]
                          have h4 : ((4 : Int32) ≤ nI (lightN n)) ↔ 4 ≤ lightN n := nI_leI (a := 4) (b := lightN n) (by decide) (by omega)
                          have h5 : (nI z ≤ (2 : Int32)) ↔ z ≤ 2 := nI_leI (a := z) (b := 2) (by omega) (by decide)
                          rw [decide_eq_decide.mpr h4, decide_eq_decide.mpr h5]
                      refine lv_iload hx hb dL_moon_104 (lv_at hl 0 rfl) ?_
                      refine lv_bipush (v := 28) hx hb dL_moon_106 (by decide) ?_
                      refine lv_irem hx hb dL_moon_108 (by decide) ?_
                      refine endI (r := nI (n % 28)) (pk_rem (a := n) (d := 28) (by omega) (by decide) (by decide)) ?_
                      refine lv_istore (lv' := [(6, .int (nI (n % 28))), (5, .int (nI n)), (4, .int (nI q)), (3, .int (1)), (2, .int (nI nt)), (0, .ref (v 0)), (1, .int (nI w))]) hx hb dL_moon_109 hl (by decide) rfl (fun ls hl => ?_)
                      refine lv_aload_n hx hb dL_moon_111 rfl (lv_at hl 5 rfl) ?_
                      refine lv_bipush (v := 16) hx hb dL_moon_112 (by decide) ?_
                      refine lv_iload hx hb dL_moon_114 (lv_at hl 1 rfl) ?_
                      refine lqSi (As := [.ref (v 0), .int (16), .int (nI n)]) (rest := []) ⟨hx, hb, hml, hown, hts⟩ (c_ask_lightOf l hl9 D T aK aV v B O g ln un nx pl f0 f1 f2 n N K C nt hOI (by omega) _) (va_cwS 3 hts (gC gl_L_call__) rfl rfl rfl (by decide +kernel) ⟨Nat.le_of_ble_eq_true rfl, Nat.le_of_ble_eq_true rfl⟩) (Foc.rfl _ _) hC hNC hK hP hD hS hA rfl hl.1 rfl (Nat.le_of_ble_eq_true rfl) ⟨by show _ ≤ 6000; omega, by show _ ≤ 36000; omega⟩ dL_moon_116 (fun H locs hP hD hS => ?_)
                      have hP : va_P D vwCl (WIN T v B O g ln un nx pl f0 f1 f2) H := hP
                      have hD : va_D A (WIN T v B O g ln un nx pl f0 f1 f2) := hD
                      refine lv_istore (lv' := [(7, .int (nI (lightN n))), (6, .int (nI (n % 28))), (5, .int (nI n)), (4, .int (nI q)), (3, .int (1)), (2, .int (nI nt)), (0, .ref (v 0)), (1, .int (nI w))]) hx hb dL_moon_119 hl (by decide) rfl (fun ls hl => ?_)
                      refine lv_aload_n hx hb dL_moon_121 rfl (lv_at hl 6 rfl) ?_
                      refine lv_bipush (v := 17) hx hb dL_moon_122 (by decide) ?_
                      refine lv_iload hx hb dL_moon_124 (lv_at hl 2 rfl) ?_
                      refine lqSi (As := [.ref (v 0), .int (17), .int (nI n)]) (rest := []) ⟨hx, hb, hml, hown, hts⟩ (c_ask_tideOf l hl9 D T aK aV v B O g ln un nx pl f0 f1 f2 n N K C nt hOI (by omega) _) (va_cwS 3 hts (gC gl_L_call__) rfl rfl rfl (by decide +kernel) ⟨Nat.le_of_ble_eq_true rfl, Nat.le_of_ble_eq_true rfl⟩) (Foc.rfl _ _) hC hNC hK hP hD hS hA rfl hl.1 rfl (Nat.le_of_ble_eq_true rfl) ⟨by show _ ≤ 6000; omega, by show _ ≤ 36000; omega⟩ dL_moon_126 (fun H locs hP hD hS => ?_)
                      have hP : va_P D vwCl (WIN T v B O g ln un nx pl f0 f1 f2) H := hP
                      have hD : va_D A (WIN T v B O g ln un nx pl f0 f1 f2) := hD
                      refine lv_istore (lv' := [(8, .int (nI (tideN n))), (7, .int (nI (lightN n))), (6, .int (nI (n % 28))), (5, .int (nI n)), (4, .int (nI q)), (3, .int (1)), (2, .int (nI nt)), (0, .ref (v 0)), (1, .int (nI w))]) hx hb dL_moon_129 hl (by decide) rfl (fun ls hl => ?_)
                      refine lv_aload_n hx hb dL_moon_131 rfl (lv_at hl 7 rfl) ?_
                      refine lv_bipush (v := 18) hx hb dL_moon_132 (by decide) ?_
                      refine lv_iload hx hb dL_moon_134 (lv_at hl 3 rfl) ?_
                      refine lqSi (As := [.ref (v 0), .int (18), .int (nI n)]) (rest := []) ⟨hx, hb, hml, hown, hts⟩ (c_ask_cloudOf l hl9 D T aK aV v B O g ln un nx pl f0 f1 f2 n N K C nt hOI (by omega) _) (va_cwS 3 hts (gC gl_L_call__) rfl rfl rfl (by decide +kernel) ⟨Nat.le_of_ble_eq_true rfl, Nat.le_of_ble_eq_true rfl⟩) (Foc.rfl _ _) hC hNC hK hP hD hS hA rfl hl.1 rfl (Nat.le_of_ble_eq_true rfl) ⟨by show _ ≤ 6000; omega, by show _ ≤ 36000; omega⟩ dL_moon_136 (fun H locs hP hD hS => ?_)
                      have hP : va_P D vwCl (WIN T v B O g ln un nx pl f0 f1 f2) H := hP
                      have hD : va_D A (WIN T v B O g ln un nx pl f0 f1 f2) := hD
                      refine endI (r := nI z) (hze) ?_
                      refine lv_istore (lv' := [(9, .int (nI z)), (8, .int (nI (tideN n))), (7, .int (nI (lightN n))), (6, .int (nI (n % 28))), (5, .int (nI n)), (4, .int (nI q)), (3, .int (1)), (2, .int (nI nt)), (0, .ref (v 0)), (1, .int (nI w))]) hx hb dL_moon_139 hl (by decide) rfl (fun ls hl => ?_)
                      refine lv_aload_n hx hb dL_moon_141 rfl (lv_at hl 8 rfl) ?_
                      refine lv_bipush (v := 19) hx hb dL_moon_142 (by decide) ?_
                      refine lv_iload hx hb dL_moon_144 (lv_at hl 4 rfl) ?_
                      refine lqSi (As := [.ref (v 0), .int (19), .int (nI n)]) (rest := []) ⟨hx, hb, hml, hown, hts⟩ (c_ask_visibleLight l hl9 D T aK aV v B O g ln un nx pl f0 f1 f2 n N K C nt hOI (by omega) _) (va_cwS 3 hts (gC gl_L_call__) rfl rfl rfl (by decide +kernel) ⟨Nat.le_of_ble_eq_true rfl, Nat.le_of_ble_eq_true rfl⟩) (Foc.rfl _ _) hC hNC hK hP hD hS hA rfl hl.1 rfl (Nat.le_of_ble_eq_true rfl) ⟨by show _ ≤ 6000; omega, by show _ ≤ 36000; omega⟩ dL_moon_146 (fun H locs hP hD hS => ?_)
                      have hP : va_P D vwCl (WIN T v B O g ln un nx pl f0 f1 f2) H := hP
                      have hD : va_D A (WIN T v B O g ln un nx pl f0 f1 f2) := hD
                      refine endI (r := nI u) (hvE) ?_
                      refine lv_istore (lv' := [(10, .int (nI u)), (9, .int (nI z)), (8, .int (nI (tideN n))), (7, .int (nI (lightN n))), (6, .int (nI (n % 28))), (5, .int (nI n)), (4, .int (nI q)), (3, .int (1)), (2, .int (nI nt)), (0, .ref (v 0)), (1, .int (nI w))]) hx hb dL_moon_149 hl (by decide) rfl (fun ls hl => ?_)
                      refine lv_iload hx hb dL_moon_151 (lv_at hl 3 rfl) ?_
                      have J153 : W p l e ({ frames := 12, cells := 6000, slots := 36000, locals := 265 } : Room) s m args below meth c H locs (cb1 + 4 + 4 + 4 + 4) (sb1 + 24 + 24 + 24 + 24) Q (F0 m 170 ls [.int (nI (lightN n)), .int (nI (lightN n))]) := by
                        refine lv_icmp_ne (tgt := 296) hx hb dL_moon_170 (by decide) (fun c170 => ?_) (fun c170 => ?_)
                        ·
                          exact absurd rfl c170
                        ·
                          refine lv_iload hx hb dL_moon_173 (lv_at hl 2 rfl) ?_
                          have J175 : W p l e ({ frames := 12, cells := 6000, slots := 36000, locals := 265 } : Room) s m args below meth c H locs (cb1 + 4 + 4 + 4 + 4) (sb1 + 24 + 24 + 24 + 24) Q (F0 m 204 ls [.int (nI (tideN n)), .int (nI (tideN n))]) := by
                            refine lv_icmp_ne (tgt := 296) hx hb dL_moon_204 (by decide) (fun c204 => ?_) (fun c204 => ?_)
                            ·
                              exact absurd rfl c204
                            ·
                              refine lv_aload_n hx hb dL_moon_207 rfl (lv_at hl 9 rfl) ?_
                              refine lv_bipush (v := 16) hx hb dL_moon_208 (by decide) ?_
                              refine lv_iload hx hb dL_moon_210 (lv_at hl 5 rfl) ?_
                              refine lv_bipush (v := 28) hx hb dL_moon_212 (by decide) ?_
                              refine lv_iadd hx hb dL_moon_214 ?_
                              refine endI (r := nI (n + 28)) (nI_add _ _) ?_
                              refine lqSi (As := [.ref (v 0), .int (16), .int (nI (n + 28))]) (rest := []) ⟨hx, hb, hml, hown, hts⟩ (c_ask_lightOf l hl9 D T aK aV v B O g ln un nx pl f0 f1 f2 (n + 28) N K C nt hOI (by omega) _) (va_cwS 3 hts (gC gl_L_call__) rfl rfl rfl (by decide +kernel) ⟨Nat.le_of_ble_eq_true rfl, Nat.le_of_ble_eq_true rfl⟩) (Foc.rfl _ _) hC hNC hK hP hD hS hA rfl hl.1 rfl (Nat.le_of_ble_eq_true rfl) ⟨by show _ ≤ 6000; omega, by show _ ≤ 36000; omega⟩ dL_moon_215 (fun H locs hP hD hS => ?_)
                              have hP : va_P D vwCl (WIN T v B O g ln un nx pl f0 f1 f2) H := hP
                              have hD : va_D A (WIN T v B O g ln un nx pl f0 f1 f2) := hD
                              refine endI (r := nI (lightN n)) (by rw [light28]) ?_
                              refine lv_iload hx hb dL_moon_218 (lv_at hl 3 rfl) ?_
                              refine lv_icmp_ne (tgt := 296) hx hb dL_moon_220 (by decide) (fun c220 => ?_) (fun c220 => ?_)
                              ·
                                exact absurd rfl c220
                              ·
                                refine lv_aload_n hx hb dL_moon_223 rfl (lv_at hl 9 rfl) ?_
                                refine lv_bipush (v := 17) hx hb dL_moon_224 (by decide) ?_
                                refine lv_iload hx hb dL_moon_226 (lv_at hl 5 rfl) ?_
                                refine lv_bipush (v := 14) hx hb dL_moon_228 (by decide) ?_
                                refine lv_iadd hx hb dL_moon_230 ?_
                                refine endI (r := nI (n + 14)) (nI_add _ _) ?_
                                refine lqSi (As := [.ref (v 0), .int (17), .int (nI (n + 14))]) (rest := []) ⟨hx, hb, hml, hown, hts⟩ (c_ask_tideOf l hl9 D T aK aV v B O g ln un nx pl f0 f1 f2 (n + 14) N K C nt hOI (by omega) _) (va_cwS 3 hts (gC gl_L_call__) rfl rfl rfl (by decide +kernel) ⟨Nat.le_of_ble_eq_true rfl, Nat.le_of_ble_eq_true rfl⟩) (Foc.rfl _ _) hC hNC hK hP hD hS hA rfl hl.1 rfl (Nat.le_of_ble_eq_true rfl) ⟨by show _ ≤ 6000; omega, by show _ ≤ 36000; omega⟩ dL_moon_231 (fun H locs hP hD hS => ?_)
                                have hP : va_P D vwCl (WIN T v B O g ln un nx pl f0 f1 f2) H := hP
                                have hD : va_D A (WIN T v B O g ln un nx pl f0 f1 f2) := hD
                                refine endI (r := nI (tideN n)) (by rw [tide14]) ?_
                                refine lv_iload hx hb dL_moon_234 (lv_at hl 2 rfl) ?_
                                refine lv_icmp_ne (tgt := 296) hx hb dL_moon_236 (by decide) (fun c236 => ?_) (fun c236 => ?_)
                                ·
                                  exact absurd rfl c236
                                ·
                                  refine lv_iload hx hb dL_moon_239 (lv_at hl 1 rfl) ?_
                                  refine lv_if_lt (tgt := 296) hx hb dL_moon_241 (by decide) (fun c241 => ?_) (fun c241 => ?_)
                                  ·
                                    have c241 : z < 0 := (nI_ltI (a := z) (b := 0) (by omega) (by omega)).mp c241
                                    exfalso; omega
                                  ·
                                    have c241 : ¬ z < 0 := fun h9 => c241 ((nI_ltI (a := z) (b := 0) (by omega) (by omega)).mpr h9)
                                    refine lv_iload hx hb dL_moon_244 (lv_at hl 1 rfl) ?_
                                    refine lv_bipush (v := 10) hx hb dL_moon_246 (by decide) ?_
                                    refine lv_icmp_ge (tgt := 296) hx hb dL_moon_248 (by decide) (fun c248 => ?_) (fun c248 => ?_)
                                    ·
                                      have c248 : 10 ≤ z := (nI_leI (a := 10) (b := z) (by omega) (by omega)).mp c248
                                      exfalso; omega
                                    ·
                                      have c248 : ¬ 10 ≤ z := fun h9 => c248 ((nI_leI (a := 10) (b := z) (by omega) (by omega)).mpr h9)
                                      refine lv_aload_n hx hb dL_moon_251 rfl (lv_at hl 9 rfl) ?_
                                      refine lv_bipush (v := 18) hx hb dL_moon_252 (by decide) ?_
                                      refine lv_iload hx hb dL_moon_254 (lv_at hl 5 rfl) ?_
                                      refine lv_aload_n hx hb dL_moon_256 rfl (lv_at hl 9 rfl) ?_
                                      refine rdV (As := []) (rest := [.int (nI n), .int (18), .ref (v 0)]) ⟨hx, hb, hml, hown, hts⟩ (c_X9_cloudCount l D T v B O g ln un nx pl f0 f1 f2 ) (cwV 0 hts (gC gl_X9_cloudCount) rfl rfl rfl (by decide +kernel) ⟨Nat.le_of_ble_eq_true rfl, Nat.le_of_ble_eq_true rfl⟩) hK hP 0 rfl rfl rfl hl.1 rfl (Nat.le_of_ble_eq_true rfl) ⟨by show _ ≤ 6000; omega, by show _ ≤ 36000; omega⟩ dL_moon_257 ?_
                                      refine endI (r := nI C) (hCn) ?_
                                      refine lv_iadd hx hb dL_moon_260 ?_
                                      refine endI (r := nI (n + C)) (nI_add _ _) ?_
                                      refine lqSi (As := [.ref (v 0), .int (18), .int (nI (n + C))]) (rest := []) ⟨hx, hb, hml, hown, hts⟩ (c_ask_cloudOf l hl9 D T aK aV v B O g ln un nx pl f0 f1 f2 (n + C) N K C nt hOI (by omega) _) (va_cwS 3 hts (gC gl_L_call__) rfl rfl rfl (by decide +kernel) ⟨Nat.le_of_ble_eq_true rfl, Nat.le_of_ble_eq_true rfl⟩) (Foc.rfl _ _) hC hNC hK hP hD hS hA rfl hl.1 rfl (Nat.le_of_ble_eq_true rfl) ⟨by show _ ≤ 6000; omega, by show _ ≤ 36000; omega⟩ dL_moon_261 (fun H locs hP hD hS => ?_)
                                      have hP : va_P D vwCl (WIN T v B O g ln un nx pl f0 f1 f2) H := hP
                                      have hD : va_D A (WIN T v B O g ln un nx pl f0 f1 f2) := hD
                                      refine endI (r := nI z) (by rw [Nat.add_mod_right]; exact hze) ?_
                                      refine lv_iload hx hb dL_moon_264 (lv_at hl 1 rfl) ?_
                                      refine lv_icmp_ne (tgt := 296) hx hb dL_moon_266 (by decide) (fun c266 => ?_) (fun c266 => ?_)
                                      ·
                                        exact absurd rfl c266
                                      ·
                                        refine lv_iload hx hb dL_moon_269 (lv_at hl 0 rfl) ?_
                                        refine lv_iload hx hb dL_moon_271 (lv_at hl 3 rfl) ?_
                                        refine lv_bipush (v := 10) hx hb dL_moon_273 (by decide) ?_
                                        refine lv_iload hx hb dL_moon_275 (lv_at hl 1 rfl) ?_
                                        refine lv_isub hx hb dL_moon_277 ?_
                                        refine endI (r := nI (10 - z)) (pk_sub (a := 10) (b := z) (by omega)) ?_
                                        refine lv_imul hx hb dL_moon_278 ?_
                                        refine endI (r := nI ((lightN n) * (10 - z))) (pk_mul _ _) ?_
                                        refine lv_bipush (v := 10) hx hb dL_moon_279 (by decide) ?_
                                        refine lv_idiv hx hb dL_moon_281 (by decide) ?_
                                        refine endI (r := nI u) (by rw [hu]; exact pk_div (d := 10) (light_mul n z) (by decide) (by decide)) ?_
                                        refine lv_icmp_ne (tgt := 296) hx hb dL_moon_282 (by decide) (fun c282 => ?_) (fun c282 => ?_)
                                        ·
                                          exact absurd rfl c282
                                        ·
                                          refine lv_iload hx hb dL_moon_285 (lv_at hl 0 rfl) ?_
                                          refine lv_iload hx hb dL_moon_287 (lv_at hl 3 rfl) ?_
                                          refine lv_icmp_gt (tgt := 296) hx hb dL_moon_289 (by decide) (fun c289 => ?_) (fun c289 => ?_)
                                          ·
                                            have c289 : (lightN n) < u := (nI_ltI (a := (lightN n)) (b := u) (by omega) (by omega)).mp c289
                                            exfalso; omega
                                          ·
                                            have c289 : ¬ (lightN n) < u := fun h9 => c289 ((nI_ltI (a := (lightN n)) (b := u) (by omega) (by omega)).mpr h9)
                                            refine lv_iconst (v := 1) hx hb dL_moon_292 (by decide) ?_
                                            refine lv_goto (tgt := 297) hx hb dL_moon_293 (by decide) ?_
                                            refine lv_istore_n (lv' := [(3, .int (1)), (10, .int (nI u)), (9, .int (nI z)), (8, .int (nI (tideN n))), (7, .int (nI (lightN n))), (6, .int (nI (n % 28))), (5, .int (nI n)), (4, .int (nI q)), (2, .int (nI nt)), (0, .ref (v 0)), (1, .int (nI w))]) hx hb dL_moon_297 rfl hl (by decide) rfl (fun ls hl => ?_)
                                            refine lv_iload_n hx hb dL_moon_298 rfl (lv_at hl 0 rfl) ?_
                                            refine lv_if_eq (tgt := 413) hx hb dL_moon_299 (by decide) (fun c299 => ?_) (fun c299 => ?_)
                                            ·
                                              exact absurd c299 (by decide)
                                            ·
                                              refine lv_aload_n hx hb dL_moon_302 rfl (lv_at hl 9 rfl) ?_
                                              refine lv_bipush (v := 20) hx hb dL_moon_303 (by decide) ?_
                                              refine lv_iconst (v := 0) hx hb dL_moon_305 (by decide) ?_
                                              refine lv_iload hx hb dL_moon_306 (lv_at hl 6 rfl) ?_
                                              refine lqSi (As := [.ref (v 0), .int (20), .int (0), .int (nI n)]) (rest := []) ⟨hx, hb, hml, hown, hts⟩ (c_ask_isJustified l hl9 D T aK aV v B O g ln un nx pl f0 f1 f2 0 n N K C nt hOI (by omega) (by omega) _) (va_cwS 4 hts (gC gl_L_call_) rfl rfl rfl (by decide +kernel) ⟨Nat.le_of_ble_eq_true rfl, Nat.le_of_ble_eq_true rfl⟩) (Foc.rfl _ _) hC hNC hK hP hD hS hA rfl hl.1 rfl (Nat.le_of_ble_eq_true rfl) ⟨by show _ ≤ 6000; omega, by show _ ≤ 36000; omega⟩ dL_moon_308 (fun H locs hP hD hS => ?_)
                                              have hP : va_P D vwCl (WIN T v B O g ln un nx pl f0 f1 f2) H := hP
                                              have hD : va_D A (WIN T v B O g ln un nx pl f0 f1 f2) := hD
                                              refine endI (r := bI (decide ((O 0) 0 1 ≤ nI u))) (by rw [hj0]) ?_
                                              have J311 : W p l e ({ frames := 12, cells := 6000, slots := 36000, locals := 265 } : Room) s m args below meth c H locs (cb1 + 4 + 4 + 4 + 4 + 4 + 4 + 4 + 4) (sb1 + 24 + 24 + 24 + 24 + 24 + 24 + 24 + 24) Q (F0 m 325 ls [.int (bI (decide ((O 0) 0 1 ≤ nI u))), .int (bI (decide ((O 0) 0 1 ≤ nI u)))]) := by
                                                refine lv_icmp_ne (tgt := 413) hx hb dL_moon_325 (by decide) (fun c325 => ?_) (fun c325 => ?_)
                                                ·
                                                  exact absurd rfl c325
                                                ·
                                                  refine lv_aload_n hx hb dL_moon_328 rfl (lv_at hl 9 rfl) ?_
                                                  refine lv_bipush (v := 20) hx hb dL_moon_329 (by decide) ?_
                                                  refine lv_iconst (v := 1) hx hb dL_moon_331 (by decide) ?_
                                                  refine lv_iload hx hb dL_moon_332 (lv_at hl 6 rfl) ?_
                                                  refine lqSi (As := [.ref (v 0), .int (20), .int (1), .int (nI n)]) (rest := []) ⟨hx, hb, hml, hown, hts⟩ (c_ask_isJustified l hl9 D T aK aV v B O g ln un nx pl f0 f1 f2 1 n N K C nt hOI (by omega) (by omega) _) (va_cwS 4 hts (gC gl_L_call_) rfl rfl rfl (by decide +kernel) ⟨Nat.le_of_ble_eq_true rfl, Nat.le_of_ble_eq_true rfl⟩) (Foc.rfl _ _) hC hNC hK hP hD hS hA rfl hl.1 rfl (Nat.le_of_ble_eq_true rfl) ⟨by show _ ≤ 6000; omega, by show _ ≤ 36000; omega⟩ dL_moon_334 (fun H locs hP hD hS => ?_)
                                                  have hP : va_P D vwCl (WIN T v B O g ln un nx pl f0 f1 f2) H := hP
                                                  have hD : va_D A (WIN T v B O g ln un nx pl f0 f1 f2) := hD
                                                  refine endI (r := bI (decide (nI u ≤ (O 0) 0 2))) (by rw [hj1]) ?_
                                                  have J337 : W p l e ({ frames := 12, cells := 6000, slots := 36000, locals := 265 } : Room) s m args below meth c H locs (cb1 + 4 + 4 + 4 + 4 + 4 + 4 + 4 + 4 + 4) (sb1 + 24 + 24 + 24 + 24 + 24 + 24 + 24 + 24 + 24) Q (F0 m 351 ls [.int (bI (decide (nI u ≤ (O 0) 0 2))), .int (bI (decide (nI u ≤ (O 0) 0 2)))]) := by
                                                    refine lv_icmp_ne (tgt := 413) hx hb dL_moon_351 (by decide) (fun c351 => ?_) (fun c351 => ?_)
                                                    ·
                                                      exact absurd rfl c351
                                                    ·
                                                      refine lv_aload_n hx hb dL_moon_354 rfl (lv_at hl 9 rfl) ?_
                                                      refine lv_bipush (v := 20) hx hb dL_moon_355 (by decide) ?_
                                                      refine lv_iconst (v := 2) hx hb dL_moon_357 (by decide) ?_
                                                      refine lv_iload hx hb dL_moon_358 (lv_at hl 6 rfl) ?_
                                                      refine lqSi (As := [.ref (v 0), .int (20), .int (2), .int (nI n)]) (rest := []) ⟨hx, hb, hml, hown, hts⟩ (c_ask_isJustified l hl9 D T aK aV v B O g ln un nx pl f0 f1 f2 2 n N K C nt hOI (by omega) (by omega) _) (va_cwS 4 hts (gC gl_L_call_) rfl rfl rfl (by decide +kernel) ⟨Nat.le_of_ble_eq_true rfl, Nat.le_of_ble_eq_true rfl⟩) (Foc.rfl _ _) hC hNC hK hP hD hS hA rfl hl.1 rfl (Nat.le_of_ble_eq_true rfl) ⟨by show _ ≤ 6000; omega, by show _ ≤ 36000; omega⟩ dL_moon_360 (fun H locs hP hD hS => ?_)
                                                      have hP : va_P D vwCl (WIN T v B O g ln un nx pl f0 f1 f2) H := hP
                                                      have hD : va_D A (WIN T v B O g ln un nx pl f0 f1 f2) := hD
                                                      refine endI (r := bI (decide ((O 0) 0 3 ≤ nI (tideN n)))) (by rw [hj2]) ?_
                                                      have J363 : W p l e ({ frames := 12, cells := 6000, slots := 36000, locals := 265 } : Room) s m args below meth c H locs (cb1 + 4 + 4 + 4 + 4 + 4 + 4 + 4 + 4 + 4 + 4) (sb1 + 24 + 24 + 24 + 24 + 24 + 24 + 24 + 24 + 24 + 24) Q (F0 m 377 ls [.int (bI (decide ((O 0) 0 3 ≤ nI (tideN n)))), .int (bI (decide ((O 0) 0 3 ≤ nI (tideN n))))]) := by
                                                        refine lv_icmp_ne (tgt := 413) hx hb dL_moon_377 (by decide) (fun c377 => ?_) (fun c377 => ?_)
                                                        ·
                                                          exact absurd rfl c377
                                                        ·
                                                          refine lv_aload_n hx hb dL_moon_380 rfl (lv_at hl 9 rfl) ?_
                                                          refine lv_bipush (v := 20) hx hb dL_moon_381 (by decide) ?_
                                                          refine lv_iconst (v := 3) hx hb dL_moon_383 (by decide) ?_
                                                          refine lv_iload hx hb dL_moon_384 (lv_at hl 6 rfl) ?_
                                                          refine lqSi (As := [.ref (v 0), .int (20), .int (3), .int (nI n)]) (rest := []) ⟨hx, hb, hml, hown, hts⟩ (c_ask_isJustified l hl9 D T aK aV v B O g ln un nx pl f0 f1 f2 3 n N K C nt hOI (by omega) (by omega) _) (va_cwS 4 hts (gC gl_L_call_) rfl rfl rfl (by decide +kernel) ⟨Nat.le_of_ble_eq_true rfl, Nat.le_of_ble_eq_true rfl⟩) (Foc.rfl _ _) hC hNC hK hP hD hS hA rfl hl.1 rfl (Nat.le_of_ble_eq_true rfl) ⟨by show _ ≤ 6000; omega, by show _ ≤ 36000; omega⟩ dL_moon_386 (fun H locs hP hD hS => ?_)
                                                          have hP : va_P D vwCl (WIN T v B O g ln un nx pl f0 f1 f2) H := hP
                                                          have hD : va_D A (WIN T v B O g ln un nx pl f0 f1 f2) := hD
                                                          refine endI (r := bI (decide (4 ≤ lightN n) && decide (z ≤ 2))) (by rw [hj3]) ?_
                                                          have J389 : W p l e ({ frames := 12, cells := 6000, slots := 36000, locals := 265 } : Room) s m args below meth c H locs (cb1 + 4 + 4 + 4 + 4 + 4 + 4 + 4 + 4 + 4 + 4 + 4) (sb1 + 24 + 24 + 24 + 24 + 24 + 24 + 24 + 24 + 24 + 24 + 24) Q (F0 m 406 ls [.int (bI (decide (4 ≤ lightN n) && decide (z ≤ 2))), .int (bI (decide (4 ≤ lightN n) && decide (z ≤ 2)))]) := by
                                                            refine lv_icmp_ne (tgt := 413) hx hb dL_moon_406 (by decide) (fun c406 => ?_) (fun c406 => ?_)
                                                            ·
                                                              exact absurd rfl c406
                                                            ·
                                                              refine lv_iconst (v := 1) hx hb dL_moon_409 (by decide) ?_
                                                              refine lv_goto (tgt := 414) hx hb dL_moon_410 (by decide) ?_
                                                              refine lv_istore_n (lv' := [(3, .int (1)), (10, .int (nI u)), (9, .int (nI z)), (8, .int (nI (tideN n))), (7, .int (nI (lightN n))), (6, .int (nI (n % 28))), (5, .int (nI n)), (4, .int (nI q)), (2, .int (nI nt)), (0, .ref (v 0)), (1, .int (nI w))]) hx hb dL_moon_414 rfl hl (by decide) rfl (fun ls hl => ?_)
                                                              refine lv_iinc (v := nI (q + 1)) (lv' := [(4, .int (nI (q + 1))), (3, .int (1)), (10, .int (nI u)), (9, .int (nI z)), (8, .int (nI (tideN n))), (7, .int (nI (lightN n))), (6, .int (nI (n % 28))), (5, .int (nI n)), (2, .int (nI nt)), (0, .ref (v 0)), (1, .int (nI w))]) hx hb dL_moon_415 hl (k := 7) rfl (nI_1 _) (by decide) rfl (fun ls hl => ?_)
                                                              refine lv_goto (tgt := 65) hx hb dL_moon_418 (by decide) ?_
                                                              exact ih65 (q + 1) _ _ (by omega) (by omega) (by omega) (by omega) _ _ _ hP hD hS (lv_sub hl [0, 1, 8, 9, 10] rfl)
                                                          refine lv_iload hx hb dL_moon_389 (lv_at hl 4 rfl) ?_
                                                          refine lv_iconst (v := 4) hx hb dL_moon_391 (by decide) ?_
                                                          refine lv_icmp_lt (tgt := 405) hx hb dL_moon_392 (by decide) (fun c392 => ?_) (fun c392 => ?_)
                                                          ·
                                                            have c392 : (lightN n) < 4 := (nI_ltI (a := (lightN n)) (b := 4) (by omega) (by omega)).mp c392
                                                            refine lv_iconst (v := 0) hx hb dL_moon_405 (by decide) ?_
                                                            refine endI (r := bI (decide (4 ≤ lightN n) && decide (z ≤ 2))) (by first | (rw [show (decide (4 ≤ lightN n) && decide (z ≤ 2)) = true from by simp only [Bool.and_eq_true, decide_eq_true_eq]; omega]; rfl) | (rw [show (decide (4 ≤ lightN n) && decide (z ≤ 2)) = false from by simp only [Bool.and_eq_false_iff, decide_eq_false_iff_not]; omega]; rfl)) ?_
                                                            exact J389
                                                          ·
                                                            have c392 : ¬ (lightN n) < 4 := fun h9 => c392 ((nI_ltI (a := (lightN n)) (b := 4) (by omega) (by omega)).mpr h9)
                                                            refine lv_iload hx hb dL_moon_395 (lv_at hl 2 rfl) ?_
                                                            refine lv_iconst (v := 2) hx hb dL_moon_397 (by decide) ?_
                                                            refine lv_icmp_gt (tgt := 405) hx hb dL_moon_398 (by decide) (fun c398 => ?_) (fun c398 => ?_)
                                                            ·
                                                              have c398 : 2 < z := (nI_ltI (a := 2) (b := z) (by omega) (by omega)).mp c398
                                                              refine lv_iconst (v := 0) hx hb dL_moon_405 (by decide) ?_
                                                              refine endI (r := bI (decide (4 ≤ lightN n) && decide (z ≤ 2))) (by first | (rw [show (decide (4 ≤ lightN n) && decide (z ≤ 2)) = true from by simp only [Bool.and_eq_true, decide_eq_true_eq]; omega]; rfl) | (rw [show (decide (4 ≤ lightN n) && decide (z ≤ 2)) = false from by simp only [Bool.and_eq_false_iff, decide_eq_false_iff_not]; omega]; rfl)) ?_
                                                              exact J389
                                                            ·
                                                              have c398 : ¬ 2 < z := fun h9 => c398 ((nI_ltI (a := 2) (b := z) (by omega) (by omega)).mpr h9)
                                                              refine lv_iconst (v := 1) hx hb dL_moon_401 (by decide) ?_
                                                              refine lv_goto (tgt := 406) hx hb dL_moon_402 (by decide) ?_
                                                              refine endI (r := bI (decide (4 ≤ lightN n) && decide (z ≤ 2))) (by first | (rw [show (decide (4 ≤ lightN n) && decide (z ≤ 2)) = true from by simp only [Bool.and_eq_true, decide_eq_true_eq]; omega]; rfl) | (rw [show (decide (4 ≤ lightN n) && decide (z ≤ 2)) = false from by simp only [Bool.and_eq_false_iff, decide_eq_false_iff_not]; omega]; rfl)) ?_
                                                              exact J389
                                                      refine lv_iload hx hb dL_moon_363 (lv_at hl 3 rfl) ?_
                                                      refine lv_aload_n hx hb dL_moon_365 rfl (lv_at hl 9 rfl) ?_
                                                      refine rdV (As := []) (rest := [.int (nI (tideN n)), .int (bI (decide ((O 0) 0 3 ≤ nI (tideN n))))]) ⟨hx, hb, hml, hown, hts⟩ (c_X9_tideLimit l D T v B O g ln un nx pl f0 f1 f2 ) (cwV 0 hts (gC gl_X9_tideLimit) rfl rfl rfl (by decide +kernel) ⟨Nat.le_of_ble_eq_true rfl, Nat.le_of_ble_eq_true rfl⟩) hK hP 0 rfl rfl rfl hl.1 rfl (Nat.le_of_ble_eq_true rfl) ⟨by show _ ≤ 6000; omega, by show _ ≤ 36000; omega⟩ dL_moon_366 ?_
                                                      refine lv_icmp_lt (tgt := 376) hx hb dL_moon_369 (by decide) (fun c369 => ?_) (fun c369 => ?_)
                                                      ·
                                                        refine lv_iconst (v := 0) hx hb dL_moon_376 (by decide) ?_
                                                        refine endI (r := bI (decide ((O 0) 0 3 ≤ nI (tideN n)))) (by first | (rw [decide_eq_true (Int32.not_lt.mp c369)]; rfl) | (rw [decide_eq_false (Int32.not_le.mpr c369)]; rfl)) ?_
                                                        exact J363
                                                      ·
                                                        refine lv_iconst (v := 1) hx hb dL_moon_372 (by decide) ?_
                                                        refine lv_goto (tgt := 377) hx hb dL_moon_373 (by decide) ?_
                                                        refine endI (r := bI (decide ((O 0) 0 3 ≤ nI (tideN n)))) (by first | (rw [decide_eq_true (Int32.not_lt.mp c369)]; rfl) | (rw [decide_eq_false (Int32.not_le.mpr c369)]; rfl)) ?_
                                                        exact J363
                                                  refine lv_iload hx hb dL_moon_337 (lv_at hl 1 rfl) ?_
                                                  refine lv_aload_n hx hb dL_moon_339 rfl (lv_at hl 9 rfl) ?_
                                                  refine rdV (As := []) (rest := [.int (nI u), .int (bI (decide (nI u ≤ (O 0) 0 2)))]) ⟨hx, hb, hml, hown, hts⟩ (c_X9_gloomLimit l D T v B O g ln un nx pl f0 f1 f2 ) (cwV 0 hts (gC gl_X9_gloomLimit) rfl rfl rfl (by decide +kernel) ⟨Nat.le_of_ble_eq_true rfl, Nat.le_of_ble_eq_true rfl⟩) hK hP 0 rfl rfl rfl hl.1 rfl (Nat.le_of_ble_eq_true rfl) ⟨by show _ ≤ 6000; omega, by show _ ≤ 36000; omega⟩ dL_moon_340 ?_
                                                  refine lv_icmp_gt (tgt := 350) hx hb dL_moon_343 (by decide) (fun c343 => ?_) (fun c343 => ?_)
                                                  ·
                                                    refine lv_iconst (v := 0) hx hb dL_moon_350 (by decide) ?_
                                                    refine endI (r := bI (decide (nI u ≤ (O 0) 0 2))) (by first | (rw [decide_eq_true (Int32.not_lt.mp c343)]; rfl) | (rw [decide_eq_false (Int32.not_le.mpr c343)]; rfl)) ?_
                                                    exact J337
                                                  ·
                                                    refine lv_iconst (v := 1) hx hb dL_moon_346 (by decide) ?_
                                                    refine lv_goto (tgt := 351) hx hb dL_moon_347 (by decide) ?_
                                                    refine endI (r := bI (decide (nI u ≤ (O 0) 0 2))) (by first | (rw [decide_eq_true (Int32.not_lt.mp c343)]; rfl) | (rw [decide_eq_false (Int32.not_le.mpr c343)]; rfl)) ?_
                                                    exact J337
                                              refine lv_iload hx hb dL_moon_311 (lv_at hl 1 rfl) ?_
                                              refine lv_aload_n hx hb dL_moon_313 rfl (lv_at hl 9 rfl) ?_
                                              refine rdV (As := []) (rest := [.int (nI u), .int (bI (decide ((O 0) 0 1 ≤ nI u)))]) ⟨hx, hb, hml, hown, hts⟩ (c_X9_glareLimit l D T v B O g ln un nx pl f0 f1 f2 ) (cwV 0 hts (gC gl_X9_glareLimit) rfl rfl rfl (by decide +kernel) ⟨Nat.le_of_ble_eq_true rfl, Nat.le_of_ble_eq_true rfl⟩) hK hP 0 rfl rfl rfl hl.1 rfl (Nat.le_of_ble_eq_true rfl) ⟨by show _ ≤ 6000; omega, by show _ ≤ 36000; omega⟩ dL_moon_314 ?_
                                              refine lv_icmp_lt (tgt := 324) hx hb dL_moon_317 (by decide) (fun c317 => ?_) (fun c317 => ?_)
                                              ·
                                                refine lv_iconst (v := 0) hx hb dL_moon_324 (by decide) ?_
                                                refine endI (r := bI (decide ((O 0) 0 1 ≤ nI u))) (by first | (rw [decide_eq_true (Int32.not_lt.mp c317)]; rfl) | (rw [decide_eq_false (Int32.not_le.mpr c317)]; rfl)) ?_
                                                exact J311
                                              ·
                                                refine lv_iconst (v := 1) hx hb dL_moon_320 (by decide) ?_
                                                refine lv_goto (tgt := 325) hx hb dL_moon_321 (by decide) ?_
                                                refine endI (r := bI (decide ((O 0) 0 1 ≤ nI u))) (by first | (rw [decide_eq_true (Int32.not_lt.mp c317)]; rfl) | (rw [decide_eq_false (Int32.not_le.mpr c317)]; rfl)) ?_
                                                exact J311
                          refine lv_iload hx hb dL_moon_175 (lv_at hl 4 rfl) ?_
                          refine lv_bipush (v := 14) hx hb dL_moon_177 (by decide) ?_
                          refine lv_irem hx hb dL_moon_179 (by decide) ?_
                          refine endI (r := nI ((n % 28) % 14)) (pk_rem (a := n % 28) (d := 14) (by omega) (by decide) (by decide)) ?_
                          refine lv_bipush (v := 7) hx hb dL_moon_180 (by decide) ?_
                          refine lv_icmp_gt (tgt := 196) hx hb dL_moon_182 (by decide) (fun c182 => ?_) (fun c182 => ?_)
                          ·
                            have c182 : 7 < ((n % 28) % 14) := (nI_ltI (a := 7) (b := ((n % 28) % 14)) (by omega) (by omega)).mp c182
                            refine lv_iload hx hb dL_moon_196 (lv_at hl 4 rfl) ?_
                            refine lv_bipush (v := 14) hx hb dL_moon_198 (by decide) ?_
                            refine lv_irem hx hb dL_moon_200 (by decide) ?_
                            refine endI (r := nI ((n % 28) % 14)) (pk_rem (a := n % 28) (d := 14) (by omega) (by decide) (by decide)) ?_
                            refine lv_bipush (v := 7) hx hb dL_moon_201 (by decide) ?_
                            refine lv_isub hx hb dL_moon_203 ?_
                            refine endI (r := nI (((n % 28) % 14) - 7)) (pk_sub (a := (n % 28) % 14) (b := 7) (by omega)) ?_
                            refine endI (r := nI (tideN n)) (by congr 1; unfold tideN; split <;> omega) ?_
                            exact J175
                          ·
                            have c182 : ¬ 7 < ((n % 28) % 14) := fun h9 => c182 ((nI_ltI (a := 7) (b := ((n % 28) % 14)) (by omega) (by omega)).mpr h9)
                            refine lv_bipush (v := 7) hx hb dL_moon_185 (by decide) ?_
                            refine lv_iload hx hb dL_moon_187 (lv_at hl 4 rfl) ?_
                            refine lv_bipush (v := 14) hx hb dL_moon_189 (by decide) ?_
                            refine lv_irem hx hb dL_moon_191 (by decide) ?_
                            refine endI (r := nI ((n % 28) % 14)) (pk_rem (a := n % 28) (d := 14) (by omega) (by decide) (by decide)) ?_
                            refine lv_isub hx hb dL_moon_192 ?_
                            refine endI (r := nI (7 - ((n % 28) % 14))) (pk_sub (a := 7) (b := (n % 28) % 14) (by omega)) ?_
                            refine lv_goto (tgt := 204) hx hb dL_moon_193 (by decide) ?_
                            refine endI (r := nI (tideN n)) (by congr 1; unfold tideN; split <;> omega) ?_
                            exact J175
                      refine lv_iload hx hb dL_moon_153 (lv_at hl 4 rfl) ?_
                      refine lv_bipush (v := 14) hx hb dL_moon_155 (by decide) ?_
                      refine lv_icmp_gt (tgt := 165) hx hb dL_moon_157 (by decide) (fun c157 => ?_) (fun c157 => ?_)
                      ·
                        have c157 : 14 < (n % 28) := (nI_ltI (a := 14) (b := (n % 28)) (by omega) (by omega)).mp c157
                        refine lv_bipush (v := 28) hx hb dL_moon_165 (by decide) ?_
                        refine lv_iload hx hb dL_moon_167 (lv_at hl 4 rfl) ?_
                        refine lv_isub hx hb dL_moon_169 ?_
                        refine endI (r := nI (28 - (n % 28))) (pk_sub (a := 28) (b := n % 28) (by omega)) ?_
                        refine endI (r := nI (lightN n)) (by congr 1; unfold lightN; split <;> omega) ?_
                        exact J153
                      ·
                        have c157 : ¬ 14 < (n % 28) := fun h9 => c157 ((nI_ltI (a := 14) (b := (n % 28)) (by omega) (by omega)).mpr h9)
                        refine lv_iload hx hb dL_moon_160 (lv_at hl 4 rfl) ?_
                        refine lv_goto (tgt := 170) hx hb dL_moon_162 (by decide) ?_
                        refine endI (r := nI (lightN n)) (by congr 1; unfold lightN; split <;> omega) ?_
                        exact J153
                    refine lv_iload hx hb dL_moon_76 (lv_at hl 0 rfl) ?_
                    refine lv_iconst (v := 3) hx hb dL_moon_78 (by decide) ?_
                    refine lv_icmp_ge (tgt := 98) hx hb dL_moon_79 (by decide) (fun c79 => ?_) (fun c79 => ?_)
                    ·
                      have c79 : 3 ≤ q := (nI_leI (a := 3) (b := q) (by omega) (by omega)).mp c79
                      refine lv_iload_n hx hb dL_moon_98 rfl (lv_at hl 2 rfl) ?_
                      refine lv_iload hx hb dL_moon_99 (lv_at hl 0 rfl) ?_
                      refine lv_iadd hx hb dL_moon_101 ?_
                      refine endI (r := nI (nt + q)) (nI_add _ _) ?_
                      refine endI (r := nI n) (by first | (rw [hnE, moonN, if_neg (by omega)]; done) | (rw [hnE, moonN, if_pos (by omega)]; exact moon_q hw (by omega))) ?_
                      exact J76
                    ·
                      have c79 : ¬ 3 ≤ q := fun h9 => c79 ((nI_leI (a := 3) (b := q) (by omega) (by omega)).mpr h9)
                      refine lv_iload_n hx hb dL_moon_82 rfl (lv_at hl 4 rfl) ?_
                      refine lv_iconst (v := 3) hx hb dL_moon_83 (by decide) ?_
                      refine lv_iload hx hb dL_moon_84 (lv_at hl 0 rfl) ?_
                      refine lv_imul hx hb dL_moon_86 ?_
                      refine endI (r := nI (3 * q)) (pk_mul _ _) ?_
                      refine lv_ishr hx hb dL_moon_87 ?_
                      refine lv_ldc (v := 65535) hx hb hown k1109 dL_moon_88 ?_
                      refine lv_iand hx hb dL_moon_90 ?_
                      refine lv_sipush (v := 1900) hx hb dL_moon_91 (by decide) ?_
                      refine lv_irem hx hb dL_moon_94 (by decide) ?_
                      refine lv_goto (tgt := 102) hx hb dL_moon_95 (by decide) ?_
                      refine endI (r := nI n) (by first | (rw [hnE, moonN, if_neg (by omega)]; done) | (rw [hnE, moonN, if_pos (by omega)]; exact moon_q hw (by omega))) ?_
                      exact J76
            exact L65 _ 0 _ _ (Nat.lt_succ_self _) (by omega) (by omega) (by omega) _ _ _ hP hD hS (lv_sub hl [0, 1, 2, 3, 4] rfl)
  exact hgo _ _ hP hS
