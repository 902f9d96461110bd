/-! the books, asked -/
theorem ask_eqw {l : Launch} {y : MethodName} {ws : List Cond} {rm : Room} {P : Array Value → State → Prop} {D : va_G} {T : Nat → ClassId} {A : Nat → Prop} {w1 w2 : va_W} {mc ms : Nat} {X Y : Int32} (e : X = Y) (ew : w1 = w2) (h : Met l y ws rm P (va_Qi (fun r9 (_ : Unit) => r9 = X) (fun _ t => QS D T A w1 t) A) mc ms A) : Met l y ws rm P (va_Qi (fun r9 (_ : Unit) => r9 = Y) (fun _ t => QS D T A w2 t) A) mc ms A := e ▸ ew ▸ h
set_option maxHeartbeats 1000000 in
theorem c_ask_bad41 (l : Launch) (hl9 : l.stackTraces = false) (D : va_G) (T : Nat → ClassId) (aK aV : Nat → Nat) (v : Nat → Nat) (B : Nat → Nat → Nat) (O : Nat → Nat → Nat → Int32) (g : CSt) (ln un nx pl : Nat) (f0 f1 f2 : Nat → Int32) (N K C nt : Nat) (hOI : OI (O 0) N K C nt) (hnt2 : nt < 2 ^ 17) (sz : Nat) : Met l yL_call__ wsL_call__ ({ frames := 11, cells := 4, slots := 24, locals := 242 } : Room) (va_Pc [.ref (v 0), .int (41), .int (nI N)] (LWP D T aK aV (WIN T v B O g ln un nx pl f0 f1 f2) sz)) (va_Qi (fun r9 (_ : Unit) => r9 = -104) (fun _ t => QS D T (va_A (WIN T v B O g ln un nx pl f0 f1 f2) sz) (WIN T v B O g ln un nx pl f0 f1 f2) t) (va_A (WIN T v B O g ln un nx pl f0 f1 f2) sz)) 4 24 (va_A (WIN T v B O g ln un nx pl f0 f1 f2) sz) := by
  refine ask_eqw ?_ ?_ (via3 (fun sz => c_call_41 l hl9 D T aK aV v B O g ln un nx pl f0 f1 f2 (nI N) 0 0 0 0 N K C nt hOI hnt2 sz) sz)
  · rw [chkB_f (inN_no _)]; rfl
  · rw [chkB_f (inN_no _)]; rfl

set_option maxHeartbeats 8000000 in
set_option maxRecDepth 100000 in
theorem c_L_books (l : Launch) (hl9 : l.stackTraces = false) (D : va_G) (T : Nat → ClassId) (aK aV : Nat → Nat) (v : Nat → Nat) (B : Nat → Nat → Nat) (O : Nat → Nat → Nat → Int32) (g : CSt) (ln un nx pl : Nat) (f0 f1 f2 : Nat → Int32)  (N K C nt : Nat) (hOI : OI (O 0) N K C nt) (hOV : OV (O 0) N K C nt) (hnt2 : nt < 2 ^ 17) (sz : Nat) : Met l yL_books wsL_books ({ frames := 12, cells := 2200, slots := 13200, locals := 265 } : Room) (va_Pc [.ref (v 0)] (LWP D T aK aV (WIN T v B O g ln un nx pl f0 f1 f2) sz)) (va_Qi (fun r9 (_ : Unit) => r9 = 1) (fun _ t => QS D T (va_A (WIN T v B O g ln un nx pl f0 f1 f2) sz) (WIN T v B O g ln un nx pl f0 f1 f2) t) (va_A (WIN T v B O g ln un nx pl f0 f1 f2) sz)) 2200 13200 (va_A (WIN T v B O g ln un nx pl f0 f1 f2) sz) := by
  refine metQi (cc := cL_books) (maxL := 19) (ty := .boolean) (by decide) rfl (rfl) (Nat.le_of_ble_eq_true rfl) ?_
  intro p e s m args below meth c Q ls A hx hb hml hown hts hNC hC hP hK hD hA hS hl hret
  have hown : s.vm.findClass RL = some m.cls := hown
  have hl : lv_has ls 19 [(0, .ref (v 0))] := hl
  have k126 := hts (Cond.arrayClass .int) (List.mem_cons_of_mem _ (gT_of mw_126 rfl))
  have hOI : OI (O 0) N K C nt := hOV.oi
  obtain ⟨hN, hN2, hKn, hK2, hCn, hC1, hC2, hn, hnt, hSK⟩ := id hOI
  have hcnt := cntC_nat (O 0) 1 hN2
  have hdon := doneC_nat (O 0) hN2
  have hgo : ∀ (H : Heap) (locs : List Loc), va_P D vwCl (WIN T v B O g ln un nx pl f0 f1 f2) H → va_S A s.heap H locs → W p l e ({ frames := 12, cells := 2200, slots := 13200, locals := 265 } : Room) s m args below meth c H locs (0) (0) Q (F0 m 0 ls []) := by
    intro H locs hP hS
    refine lv_aload_n hx hb dL_books_0 rfl (lv_at hl 0 rfl) ?_
    refine rdV (As := []) (rest := []) ⟨hx, hb, hml, hown, hts⟩ (c_X9_complaintCount l D T v B O g ln un nx pl f0 f1 f2 ) (cwV 0 hts (gC gl_X9_complaintCount) rfl rfl rfl (by decide +kernel) ⟨Nat.le_of_ble_eq_true rfl, Nat.le_of_ble_eq_true rfl⟩) hK hP 0 rfl rfl rfl hl.1 rfl (Nat.le_of_ble_eq_true rfl) ⟨by show _ ≤ 2200; omega, by show _ ≤ 13200; omega⟩ dL_books_1 ?_
    refine endI (r := nI N) (hN) ?_
    refine lv_istore_n (lv' := [(1, .int (nI N)), (0, .ref (v 0))]) hx hb dL_books_4 rfl hl (by decide) rfl (fun ls hl => ?_)
    refine lv_aload_n hx hb dL_books_5 rfl (lv_at hl 1 rfl) ?_
    refine rdV (As := []) (rest := []) ⟨hx, hb, hml, hown, hts⟩ (c_X9_clerkCount l D T v B O g ln un nx pl f0 f1 f2 ) (cwV 0 hts (gC gl_X9_clerkCount) rfl rfl rfl (by decide +kernel) ⟨Nat.le_of_ble_eq_true rfl, Nat.le_of_ble_eq_true rfl⟩) hK hP 0 rfl rfl rfl hl.1 rfl (Nat.le_of_ble_eq_true rfl) ⟨by show _ ≤ 2200; omega, by show _ ≤ 13200; omega⟩ dL_books_6 ?_
    refine endI (r := nI K) (hKn) ?_
    refine lv_istore_n (lv' := [(2, .int (nI K)), (1, .int (nI N)), (0, .ref (v 0))]) hx hb dL_books_9 rfl hl (by decide) rfl (fun ls hl => ?_)
    refine lv_iconst (v := 4) hx hb dL_books_10 (by decide) ?_
    refine newI hx hb k126 hK hP hD hS hA (n := 4) (N' := 4) (by decide) (by decide) (by decide) (by show _ ≤ 2200; omega) (by show _ ≤ 13200; omega) dL_books_11 (fun q11 H hP hD hS => ?_)
    obtain ⟨hP, hD⟩ := wFront hP hD
    have hP : va_P D vwCl ((q11, .inl (T 0, 4, .inl (fun _ => 0))) :: WIN T v B O g ln un nx pl f0 f1 f2) H := hP
    have hD : va_D A ((q11, .inl (T 0, 4, .inl (fun _ => 0))) :: WIN T v B O g ln un nx pl f0 f1 f2) := hD
    refine lv_astore_n (lv' := [(3, .ref (q11)), (2, .int (nI K)), (1, .int (nI N)), (0, .ref (v 0))]) hx hb dL_books_13 rfl hl (by decide) rfl (fun ls hl => ?_)
    refine lv_iconst (v := 5) hx hb dL_books_14 (by decide) ?_
    refine newI hx hb k126 hK hP hD hS hA (n := 5) (N' := 5) (by decide) (by decide) (by decide) (by show _ ≤ 2200; omega) (by show _ ≤ 13200; omega) dL_books_15 (fun q15 H hP hD hS => ?_)
    obtain ⟨hP, hD⟩ := wFront hP hD
    have hP : va_P D vwCl ((q15, .inl (T 0, 5, .inl (fun _ => 0))) :: (q11, .inl (T 0, 4, .inl (fun _ => 0))) :: WIN T v B O g ln un nx pl f0 f1 f2) H := hP
    have hD : va_D A ((q15, .inl (T 0, 5, .inl (fun _ => 0))) :: (q11, .inl (T 0, 4, .inl (fun _ => 0))) :: WIN T v B O g ln un nx pl f0 f1 f2) := hD
    refine lv_astore (lv' := [(4, .ref (q15)), (3, .ref (q11)), (2, .int (nI K)), (1, .int (nI N)), (0, .ref (v 0))]) hx hb dL_books_17 hl (by decide) rfl (fun ls hl => ?_)
    refine lv_iconst (v := 0) hx hb dL_books_19 (by decide) ?_
    refine lv_istore (lv' := [(5, .int (0)), (4, .ref (q15)), (3, .ref (q11)), (2, .int (nI K)), (1, .int (nI N)), (0, .ref (v 0))]) hx hb dL_books_20 hl (by decide) rfl (fun ls hl => ?_)
    refine lv_iconst (v := 0) hx hb dL_books_22 (by decide) ?_
    refine lv_istore (lv' := [(6, .int (0)), (5, .int (0)), (4, .ref (q15)), (3, .ref (q11)), (2, .int (nI K)), (1, .int (nI N)), (0, .ref (v 0))]) hx hb dL_books_23 hl (by decide) rfl (fun ls hl => ?_)
    refine lv_bipush (v := -101) hx hb dL_books_25 (by decide) ?_
    refine lv_istore (lv' := [(7, .int (-101)), (6, .int (0)), (5, .int (0)), (4, .ref (q15)), (3, .ref (q11)), (2, .int (nI K)), (1, .int (nI N)), (0, .ref (v 0))]) hx hb dL_books_27 hl (by decide) rfl (fun ls hl => ?_)
    refine lv_bipush (v := -101) hx hb dL_books_29 (by decide) ?_
    refine lv_istore (lv' := [(8, .int (-101)), (7, .int (-101)), (6, .int (0)), (5, .int (0)), (4, .ref (q15)), (3, .ref (q11)), (2, .int (nI K)), (1, .int (nI N)), (0, .ref (v 0))]) hx hb dL_books_31 hl (by decide) rfl (fun ls hl => ?_)
    refine lv_iload_n hx hb dL_books_33 rfl (lv_at hl 7 rfl) ?_
    refine lv_bipush (v := 24) hx hb dL_books_34 (by decide) ?_
    refine lv_icmp_gt (tgt := 97) hx hb dL_books_36 (by decide) (fun c36 => ?_) (fun c36 => ?_)
    ·
      have c36 : 24 < N := (nI_ltI (a := 24) (b := N) (by omega) (by omega)).mp c36
      exfalso; omega
    ·
      have c36 : ¬ 24 < N := fun h9 => c36 ((nI_ltI (a := 24) (b := N) (by omega) (by omega)).mpr h9)
      refine lv_iload_n hx hb dL_books_39 rfl (lv_at hl 6 rfl) ?_
      refine lv_iconst (v := 5) hx hb dL_books_40 (by decide) ?_
      refine lv_icmp_gt (tgt := 97) hx hb dL_books_41 (by decide) (fun c41 => ?_) (fun c41 => ?_)
      ·
        have c41 : 5 < K := (nI_ltI (a := 5) (b := K) (by omega) (by omega)).mp c41
        exfalso; omega
      ·
        have c41 : ¬ 5 < K := fun h9 => c41 ((nI_ltI (a := 5) (b := K) (by omega) (by omega)).mpr h9)
        refine lv_aload_n hx hb dL_books_44 rfl (lv_at hl 8 rfl) ?_
        refine lv_bipush (v := 25) hx hb dL_books_45 (by decide) ?_
        refine lv_iload_n hx hb dL_books_47 rfl (lv_at hl 7 rfl) ?_
        refine lqSi (As := [.ref (v 0), .int (25), .int (nI N)]) (rest := []) ⟨hx, hb, hml, hown, hts⟩ (c_ask_bad25 l hl9 D T aK aV v B O g ln un nx pl f0 f1 f2 N K C nt hOI _) (va_cwS 3 hts (gC gl_L_call__) rfl rfl rfl (by decide +kernel) ⟨Nat.le_of_ble_eq_true rfl, Nat.le_of_ble_eq_true rfl⟩) (Foc.pre [(q15, .inl (T 0, 5, .inl (fun _ => 0))), (q11, .inl (T 0, 4, .inl (fun _ => 0)))] _ _) hC hNC hK hP hD hS hA rfl hl.1 rfl (Nat.le_of_ble_eq_true rfl) ⟨by show _ ≤ 2200; omega, by show _ ≤ 13200; omega⟩ dL_books_48 (fun H locs hP hD hS => ?_)
        have hP : va_P D vwCl ((q15, .inl (T 0, 5, .inl (fun _ => 0))) :: (q11, .inl (T 0, 4, .inl (fun _ => 0))) :: WIN T v B O g ln un nx pl f0 f1 f2) H := hP
        have hD : va_D A ((q15, .inl (T 0, 5, .inl (fun _ => 0))) :: (q11, .inl (T 0, 4, .inl (fun _ => 0))) :: WIN T v B O g ln un nx pl f0 f1 f2) := hD
        refine lv_bipush (v := -104) hx hb dL_books_51 (by decide) ?_
        refine lv_icmp_ne (tgt := 97) hx hb dL_books_53 (by decide) (fun c53 => ?_) (fun c53 => ?_)
        ·
          exact absurd c53 (by decide)
        ·
          refine lv_aload_n hx hb dL_books_56 rfl (lv_at hl 8 rfl) ?_
          refine lv_bipush (v := 39) hx hb dL_books_57 (by decide) ?_
          refine lv_iload_n hx hb dL_books_59 rfl (lv_at hl 6 rfl) ?_
          refine lqSi (As := [.ref (v 0), .int (39), .int (nI K)]) (rest := []) ⟨hx, hb, hml, hown, hts⟩ (c_ask_bad39 l hl9 D T aK aV v B O g ln un nx pl f0 f1 f2 N K C nt hOI _) (va_cwS 3 hts (gC gl_L_call__) rfl rfl rfl (by decide +kernel) ⟨Nat.le_of_ble_eq_true rfl, Nat.le_of_ble_eq_true rfl⟩) (Foc.pre [(q15, .inl (T 0, 5, .inl (fun _ => 0))), (q11, .inl (T 0, 4, .inl (fun _ => 0)))] _ _) hC hNC hK hP hD hS hA rfl hl.1 rfl (Nat.le_of_ble_eq_true rfl) ⟨by show _ ≤ 2200; omega, by show _ ≤ 13200; omega⟩ dL_books_60 (fun H locs hP hD hS => ?_)
          have hP : va_P D vwCl ((q15, .inl (T 0, 5, .inl (fun _ => 0))) :: (q11, .inl (T 0, 4, .inl (fun _ => 0))) :: WIN T v B O g ln un nx pl f0 f1 f2) H := hP
          have hD : va_D A ((q15, .inl (T 0, 5, .inl (fun _ => 0))) :: (q11, .inl (T 0, 4, .inl (fun _ => 0))) :: WIN T v B O g ln un nx pl f0 f1 f2) := hD
          refine lv_bipush (v := -104) hx hb dL_books_63 (by decide) ?_
          refine lv_icmp_ne (tgt := 97) hx hb dL_books_65 (by decide) (fun c65 => ?_) (fun c65 => ?_)
          ·
            exact absurd c65 (by decide)
          ·
            refine lv_aload_n hx hb dL_books_68 rfl (lv_at hl 8 rfl) ?_
            refine lv_bipush (v := 41) hx hb dL_books_69 (by decide) ?_
            refine lv_iload_n hx hb dL_books_71 rfl (lv_at hl 7 rfl) ?_
            refine lqSi (As := [.ref (v 0), .int (41), .int (nI N)]) (rest := []) ⟨hx, hb, hml, hown, hts⟩ (c_ask_bad41 l hl9 D T aK aV v B O g ln un nx pl f0 f1 f2 N K C nt hOI (by omega) _) (va_cwS 3 hts (gC gl_L_call__) rfl rfl rfl (by decide +kernel) ⟨Nat.le_of_ble_eq_true rfl, Nat.le_of_ble_eq_true rfl⟩) (Foc.pre [(q15, .inl (T 0, 5, .inl (fun _ => 0))), (q11, .inl (T 0, 4, .inl (fun _ => 0)))] _ _) hC hNC hK hP hD hS hA rfl hl.1 rfl (Nat.le_of_ble_eq_true rfl) ⟨by show _ ≤ 2200; omega, by show _ ≤ 13200; omega⟩ dL_books_72 (fun H locs hP hD hS => ?_)
            have hP : va_P D vwCl ((q15, .inl (T 0, 5, .inl (fun _ => 0))) :: (q11, .inl (T 0, 4, .inl (fun _ => 0))) :: WIN T v B O g ln un nx pl f0 f1 f2) H := hP
            have hD : va_D A ((q15, .inl (T 0, 5, .inl (fun _ => 0))) :: (q11, .inl (T 0, 4, .inl (fun _ => 0))) :: WIN T v B O g ln un nx pl f0 f1 f2) := hD
            refine lv_bipush (v := -104) hx hb dL_books_75 (by decide) ?_
            refine lv_icmp_ne (tgt := 97) hx hb dL_books_77 (by decide) (fun c77 => ?_) (fun c77 => ?_)
            ·
              exact absurd c77 (by decide)
            ·
              refine lv_aload_n hx hb dL_books_80 rfl (lv_at hl 8 rfl) ?_
              refine lv_bipush (v := 36) hx hb dL_books_81 (by decide) ?_
              refine lv_bipush (v := 100) hx hb dL_books_83 (by decide) ?_
              refine lqSi (As := [.ref (v 0), .int (36), .int (100)]) (rest := []) ⟨hx, hb, hml, hown, hts⟩ (c_ask_bad36 l hl9 D T aK aV v B O g ln un nx pl f0 f1 f2 N K C nt hOI _) (va_cwS 3 hts (gC gl_L_call__) rfl rfl rfl (by decide +kernel) ⟨Nat.le_of_ble_eq_true rfl, Nat.le_of_ble_eq_true rfl⟩) (Foc.pre [(q15, .inl (T 0, 5, .inl (fun _ => 0))), (q11, .inl (T 0, 4, .inl (fun _ => 0)))] _ _) hC hNC hK hP hD hS hA rfl hl.1 rfl (Nat.le_of_ble_eq_true rfl) ⟨by show _ ≤ 2200; omega, by show _ ≤ 13200; omega⟩ dL_books_85 (fun H locs hP hD hS => ?_)
              have hP : va_P D vwCl ((q15, .inl (T 0, 5, .inl (fun _ => 0))) :: (q11, .inl (T 0, 4, .inl (fun _ => 0))) :: WIN T v B O g ln un nx pl f0 f1 f2) H := hP
              have hD : va_D A ((q15, .inl (T 0, 5, .inl (fun _ => 0))) :: (q11, .inl (T 0, 4, .inl (fun _ => 0))) :: WIN T v B O g ln un nx pl f0 f1 f2) := hD
              refine lv_bipush (v := -103) hx hb dL_books_88 (by decide) ?_
              refine lv_icmp_ne (tgt := 97) hx hb dL_books_90 (by decide) (fun c90 => ?_) (fun c90 => ?_)
              ·
                exact absurd c90 (by decide)
              ·
                refine lv_iconst (v := 1) hx hb dL_books_93 (by decide) ?_
                refine lv_goto (tgt := 98) hx hb dL_books_94 (by decide) ?_
                refine lv_istore (lv' := [(9, .int (1)), (8, .int (-101)), (7, .int (-101)), (6, .int (0)), (5, .int (0)), (4, .ref (q15)), (3, .ref (q11)), (2, .int (nI K)), (1, .int (nI N)), (0, .ref (v 0))]) hx hb dL_books_98 hl (by decide) rfl (fun ls hl => ?_)
                refine lv_iconst (v := 0) hx hb dL_books_100 (by decide) ?_
                refine lv_istore (lv' := [(10, .int (0)), (9, .int (1)), (8, .int (-101)), (7, .int (-101)), (6, .int (0)), (5, .int (0)), (4, .ref (q15)), (3, .ref (q11)), (2, .int (nI K)), (1, .int (nI N)), (0, .ref (v 0))]) hx hb dL_books_101 hl (by decide) rfl (fun ls hl => ?_)
                have L103 : ∀ (n9 : Nat) (k : Nat) (fc : Nat → Int32) (fa : Nat → Int32) (ag : Int32) (wt : Int32) (bo : Option Nat) (ba : Option Nat) (cb1 sb1 : Nat), (N - k) < n9 → (k ≤ N) → (∀ i, i < 4 → cntI (fun j => decide ((O 0) 8 j = nI i)) (N - k) k (fc i) = cntI (fun j => decide ((O 0) 8 j = nI i)) N 0 0) → (∀ i, i < K → cntI (fun j => decide ((O 0) 8 j = 1) && decide ((O 0) 10 j = nI i)) (N - k) k (fa i) = cntI (fun j => decide ((O 0) 8 j = 1) && decide ((O 0) 10 j = nI i)) N 0 0) → (sumI (fun j => decide ((O 0) 8 j = 1)) (fun k => (O 0) 6 k) (N - k) k ag = sumI (fun j => decide ((O 0) 8 j = 1)) (fun k => (O 0) 6 k) N 0 0) → (sumI (fun j => decide ((O 0) 8 j = 1)) (fun k => (O 0) 9 k - (O 0) 7 k) (N - k) k wt = sumI (fun j => decide ((O 0) 8 j = 1)) (fun k => (O 0) 9 k - (O 0) 7 k) N 0 0) → (bestB (fun j => decide ((O 0) 8 j = 0)) (fun a b => decide ((O 0) 7 a < (O 0) 7 b)) (N - k) k bo = bestB (fun j => decide ((O 0) 8 j = 0)) (fun a b => decide ((O 0) 7 a < (O 0) 7 b)) N 0 none) → (bestB (fun j => decide ((O 0) 8 j = 0)) (fun a b => decide ((O 0) 6 b < (O 0) 6 a)) (N - k) k ba = bestB (fun j => decide ((O 0) 8 j = 0)) (fun a b => decide ((O 0) 6 b < (O 0) 6 a)) N 0 none) → (∀ j, bo = some j → j < N) → (∀ j, ba = some j → j < N) → cb1 ≤ 0 + 18 + 64 * k → sb1 ≤ 0 + 105 + 384 * k → ∀ (H : Heap) (locs : List Loc) (ls : Array Slot), va_P D vwCl ((q15, .inl (T 0, 5, .inl fa)) :: (q11, .inl (T 0, 4, .inl fc)) :: WIN T v B O g ln un nx pl f0 f1 f2) H → va_D A ((q15, .inl (T 0, 5, .inl fa)) :: (q11, .inl (T 0, 4, .inl fc)) :: WIN T v B O g ln un nx pl f0 f1 f2) → va_S A s.heap H locs → lv_has ls 19 [(10, .int (nI k)), (9, .int (1)), (8, .int (ba.elim (-101) nI)), (7, .int (bo.elim (-101) nI)), (6, .int (wt)), (5, .int (ag)), (4, .ref (q15)), (3, .ref (q11)), (2, .int (nI K)), (1, .int (nI N)), (0, .ref (v 0))] → W p l e ({ frames := 12, cells := 2200, slots := 13200, locals := 265 } : Room) s m args below meth c H locs cb1 sb1 Q (F0 m 103 ls []) := by
                  intro n9
                  induction n9 with
                  | zero => intro k fc fa ag wt bo ba cb1 sb1 hm9; exact absurd hm9 (Nat.not_lt_zero _)
                  | succ n9 ih103 =>
                    intro k fc fa ag wt bo ba cb1 sb1 hm9 hk hfc hfa hag hwt hbo hba hbo2 hba2 hcb1 hsb1 H locs ls hP hD hS hl
                    refine lv_iload hx hb dL_books_103 (lv_at hl 0 rfl) ?_
                    refine lv_iload_n hx hb dL_books_105 rfl (lv_at hl 9 rfl) ?_
                    refine lv_icmp_ge (tgt := 502) hx hb dL_books_106 (by decide) (fun c106 => ?_) (fun c106 => ?_)
                    ·
                      have c106 : N ≤ k := (nI_leI (a := N) (b := k) (by omega) (by omega)).mp c106
                      have hfc9 : ∀ i, i < 4 → cntI (fun j => decide ((O 0) 8 j = nI i)) N 0 0 = fc i := fun i hi => by have h9 := hfc i hi; rw [cntI_done (by omega)] at h9; exact h9.symm
                      have hf0 : cntC (O 0) 0 N = fc 0 := hfc9 0 (by omega)
                      have hf1 : cntC (O 0) 1 N = fc 1 := hfc9 1 (by omega)
                      have hf2 : cntC (O 0) 2 N = fc 2 := hfc9 2 (by omega)
                      have hf3 : cntC (O 0) 3 N = fc 3 := hfc9 3 (by omega)
                      have hag9 : ag = sumI (fun j => decide ((O 0) 8 j = 1)) (fun k => (O 0) 6 k) N 0 0 := by rw [← hag]; exact (sumI_done (by omega)).symm
                      have hS9 : sumI (fun j => decide ((O 0) 8 j = 1)) (fun k => (O 0) 9 k - (O 0) 7 k) N 0 0 = wt := by rw [← hwt]; exact sumI_done (by omega)
                      have hbo9 : bo = bestB (fun j => decide ((O 0) 8 j = 0)) (fun a b => decide ((O 0) 7 a < (O 0) 7 b)) N 0 none := by rw [← hbo]; exact (bestB_done (by omega)).symm
                      have hba9 : ba = bestB (fun j => decide ((O 0) 8 j = 0)) (fun a b => decide ((O 0) 6 b < (O 0) 6 a)) N 0 none := by rw [← hba]; exact (bestB_done (by omega)).symm
                      refine lv_bipush (v := -101) hx hb dL_books_502 (by decide) ?_
                      refine lv_istore (lv' := [(10, .int (-101)), (9, .int (1)), (8, .int (ba.elim (-101) nI)), (7, .int (bo.elim (-101) nI)), (6, .int (wt)), (5, .int (ag)), (4, .ref (q15)), (3, .ref (q11)), (2, .int (nI K)), (1, .int (nI N)), (0, .ref (v 0))]) hx hb dL_books_504 hl (by decide) rfl (fun ls hl => ?_)
                      refine lv_iconst (v := 0) hx hb dL_books_506 (by decide) ?_
                      refine lv_istore (lv' := [(11, .int (0)), (10, .int (-101)), (9, .int (1)), (8, .int (ba.elim (-101) nI)), (7, .int (bo.elim (-101) nI)), (6, .int (wt)), (5, .int (ag)), (4, .ref (q15)), (3, .ref (q11)), (2, .int (nI K)), (1, .int (nI N)), (0, .ref (v 0))]) hx hb dL_books_507 hl (by decide) rfl (fun ls hl => ?_)
                      have L509 : ∀ (n9 : Nat) (k2 : Nat) (bd : Option Nat) (cb2 sb2 : Nat), (K - k2) < n9 → (k2 ≤ K) → (bestB (fun _ => true) (fun a b => decide ((O 0) 3 a < (O 0) 3 b)) (K - k2) k2 bd = bestB (fun _ => true) (fun a b => decide ((O 0) 3 a < (O 0) 3 b)) K 0 none) → (∀ j, bd = some j → j < K) → cb2 ≤ 0 + 18 + 64 * k + 0 + 20 * k2 → sb2 ≤ 0 + 105 + 384 * k + 0 + 120 * k2 → ∀ (H : Heap) (locs : List Loc) (ls : Array Slot), va_P D vwCl ((q15, .inl (T 0, 5, .inl fa)) :: (q11, .inl (T 0, 4, .inl fc)) :: WIN T v B O g ln un nx pl f0 f1 f2) H → va_D A ((q15, .inl (T 0, 5, .inl fa)) :: (q11, .inl (T 0, 4, .inl fc)) :: WIN T v B O g ln un nx pl f0 f1 f2) → va_S A s.heap H locs → lv_has ls 19 [(11, .int (nI k2)), (10, .int (bd.elim (-101) nI)), (9, .int (1)), (8, .int (ba.elim (-101) nI)), (7, .int (bo.elim (-101) nI)), (6, .int (wt)), (5, .int (ag)), (4, .ref (q15)), (3, .ref (q11)), (2, .int (nI K)), (1, .int (nI N)), (0, .ref (v 0))] → W p l e ({ frames := 12, cells := 2200, slots := 13200, locals := 265 } : Room) s m args below meth c H locs cb2 sb2 Q (F0 m 509 ls []) := by
                        intro n9
                        induction n9 with
                        | zero => intro k2 bd cb2 sb2 hm9; exact absurd hm9 (Nat.not_lt_zero _)
                        | succ n9 ih509 =>
                          intro k2 bd cb2 sb2 hm9 hk2 hbd hbd2 hcb2 hsb2 H locs ls hP hD hS hl
                          refine lv_iload hx hb dL_books_509 (lv_at hl 0 rfl) ?_
                          refine lv_iload_n hx hb dL_books_511 rfl (lv_at hl 9 rfl) ?_
                          refine lv_icmp_ge (tgt := 601) hx hb dL_books_512 (by decide) (fun c512 => ?_) (fun c512 => ?_)
                          ·
                            have c512 : K ≤ k2 := (nI_leI (a := K) (b := k2) (by omega) (by omega)).mp c512
                            have hbd9 : bd = bestB (fun _ => true) (fun a b => decide ((O 0) 3 a < (O 0) 3 b)) K 0 none := by rw [← hbd]; exact (bestB_done (by omega)).symm
                            refine lv_iload_n hx hb dL_books_601 rfl (lv_at hl 10 rfl) ?_
                            refine lv_aload_n hx hb dL_books_602 rfl (lv_at hl 8 rfl) ?_
                            refine lv_iconst (v := 0) hx hb dL_books_603 (by decide) ?_
                            refine aldI hx hb hK hP 1 0 rfl rfl (0) rfl (by omega) (by decide) dL_books_604 ?_
                            refine lv_isub hx hb dL_books_605 ?_
                            refine lv_istore (lv' := [(11, .int ((nI N) - (fc 0))), (10, .int (bd.elim (-101) nI)), (9, .int (1)), (8, .int (ba.elim (-101) nI)), (7, .int (bo.elim (-101) nI)), (6, .int (wt)), (5, .int (ag)), (4, .ref (q15)), (3, .ref (q11)), (2, .int (nI K)), (1, .int (nI N)), (0, .ref (v 0))]) hx hb dL_books_606 hl (by decide) rfl (fun ls hl => ?_)
                            refine lv_iload hx hb dL_books_608 (lv_at hl 2 rfl) ?_
                            refine lv_if_eq (tgt := 753) hx hb dL_books_610 (by decide) (fun c610 => ?_) (fun c610 => ?_)
                            ·
                              exact absurd c610 (by decide)
                            ·
                              refine lv_aload_n hx hb dL_books_613 rfl (lv_at hl 11 rfl) ?_
                              refine rdV (As := []) (rest := []) ⟨hx, hb, hml, hown, hts⟩ (c_X9_waitingCount l D T v B O g ln un nx pl f0 f1 f2 N K C nt hOI) (cwV 0 hts (gC gl_X9_waitingCount) rfl rfl rfl (by decide +kernel) ⟨Nat.le_of_ble_eq_true rfl, Nat.le_of_ble_eq_true rfl⟩) hK (wTail (x := [(q15, .inl (T 0, 5, .inl fa)), (q11, .inl (T 0, 4, .inl fc))]) hP hD).1 0 rfl rfl rfl hl.1 rfl (Nat.le_of_ble_eq_true rfl) ⟨by show _ ≤ 2200; omega, by show _ ≤ 13200; omega⟩ dL_books_614 ?_
                              refine endI (r := fc 0) (hf0) ?_
                              refine lv_aload_n hx hb dL_books_617 rfl (lv_at hl 8 rfl) ?_
                              refine lv_iconst (v := 0) hx hb dL_books_618 (by decide) ?_
                              refine aldI hx hb hK hP 1 0 rfl rfl (0) rfl (by omega) (by decide) dL_books_619 ?_
                              refine lv_icmp_ne (tgt := 753) hx hb dL_books_620 (by decide) (fun c620 => ?_) (fun c620 => ?_)
                              ·
                                exact absurd rfl c620
                              ·
                                refine lv_aload_n hx hb dL_books_623 rfl (lv_at hl 11 rfl) ?_
                                refine rdV (As := []) (rest := []) ⟨hx, hb, hml, hown, hts⟩ (c_X9_answeredCount l D T v B O g ln un nx pl f0 f1 f2 N K C nt hOI) (cwV 0 hts (gC gl_X9_answeredCount) rfl rfl rfl (by decide +kernel) ⟨Nat.le_of_ble_eq_true rfl, Nat.le_of_ble_eq_true rfl⟩) hK (wTail (x := [(q15, .inl (T 0, 5, .inl fa)), (q11, .inl (T 0, 4, .inl fc))]) hP hD).1 0 rfl rfl rfl hl.1 rfl (Nat.le_of_ble_eq_true rfl) ⟨by show _ ≤ 2200; omega, by show _ ≤ 13200; omega⟩ dL_books_624 ?_
                                refine endI (r := fc 1) (hf1) ?_
                                refine lv_aload_n hx hb dL_books_627 rfl (lv_at hl 8 rfl) ?_
                                refine lv_iconst (v := 1) hx hb dL_books_628 (by decide) ?_
                                refine aldI hx hb hK hP 1 0 rfl rfl (1) rfl (by omega) (by decide) dL_books_629 ?_
                                refine lv_icmp_ne (tgt := 753) hx hb dL_books_630 (by decide) (fun c630 => ?_) (fun c630 => ?_)
                                ·
                                  exact absurd rfl c630
                                ·
                                  refine lv_aload_n hx hb dL_books_633 rfl (lv_at hl 11 rfl) ?_
                                  refine rdV (As := []) (rest := []) ⟨hx, hb, hml, hown, hts⟩ (c_X9_dismissedCount l D T v B O g ln un nx pl f0 f1 f2 N K C nt hOI) (cwV 0 hts (gC gl_X9_dismissedCount) rfl rfl rfl (by decide +kernel) ⟨Nat.le_of_ble_eq_true rfl, Nat.le_of_ble_eq_true rfl⟩) hK (wTail (x := [(q15, .inl (T 0, 5, .inl fa)), (q11, .inl (T 0, 4, .inl fc))]) hP hD).1 0 rfl rfl rfl hl.1 rfl (Nat.le_of_ble_eq_true rfl) ⟨by show _ ≤ 2200; omega, by show _ ≤ 13200; omega⟩ dL_books_634 ?_
                                  refine endI (r := fc 2) (hf2) ?_
                                  refine lv_aload_n hx hb dL_books_637 rfl (lv_at hl 8 rfl) ?_
                                  refine lv_iconst (v := 2) hx hb dL_books_638 (by decide) ?_
                                  refine aldI hx hb hK hP 1 0 rfl rfl (2) rfl (by omega) (by decide) dL_books_639 ?_
                                  refine lv_icmp_ne (tgt := 753) hx hb dL_books_640 (by decide) (fun c640 => ?_) (fun c640 => ?_)
                                  ·
                                    exact absurd rfl c640
                                  ·
                                    refine lv_aload_n hx hb dL_books_643 rfl (lv_at hl 11 rfl) ?_
                                    refine rdV (As := []) (rest := []) ⟨hx, hb, hml, hown, hts⟩ (c_X9_givenUpCount l D T v B O g ln un nx pl f0 f1 f2 N K C nt hOI) (cwV 0 hts (gC gl_X9_givenUpCount) rfl rfl rfl (by decide +kernel) ⟨Nat.le_of_ble_eq_true rfl, Nat.le_of_ble_eq_true rfl⟩) hK (wTail (x := [(q15, .inl (T 0, 5, .inl fa)), (q11, .inl (T 0, 4, .inl fc))]) hP hD).1 0 rfl rfl rfl hl.1 rfl (Nat.le_of_ble_eq_true rfl) ⟨by show _ ≤ 2200; omega, by show _ ≤ 13200; omega⟩ dL_books_644 ?_
                                    refine endI (r := fc 3) (hf3) ?_
                                    refine lv_aload_n hx hb dL_books_647 rfl (lv_at hl 8 rfl) ?_
                                    refine lv_iconst (v := 3) hx hb dL_books_648 (by decide) ?_
                                    refine aldI hx hb hK hP 1 0 rfl rfl (3) rfl (by omega) (by decide) dL_books_649 ?_
                                    refine lv_icmp_ne (tgt := 753) hx hb dL_books_650 (by decide) (fun c650 => ?_) (fun c650 => ?_)
                                    ·
                                      exact absurd rfl c650
                                    ·
                                      refine lv_aload_n hx hb dL_books_653 rfl (lv_at hl 11 rfl) ?_
                                      refine rdV (As := []) (rest := []) ⟨hx, hb, hml, hown, hts⟩ (c_X9_comfort l D T v B O g ln un nx pl f0 f1 f2 N K C nt hOI) (cwV 0 hts (gC gl_X9_comfort) rfl rfl rfl (by decide +kernel) ⟨Nat.le_of_ble_eq_true rfl, Nat.le_of_ble_eq_true rfl⟩) hK (wTail (x := [(q15, .inl (T 0, 5, .inl fa)), (q11, .inl (T 0, 4, .inl fc))]) hP hD).1 0 rfl rfl rfl hl.1 rfl (Nat.le_of_ble_eq_true rfl) ⟨by show _ ≤ 2200; omega, by show _ ≤ 13200; omega⟩ dL_books_654 ?_
                                      refine endI (r := ag) (hag9.symm) ?_
                                      refine lv_iload hx hb dL_books_657 (lv_at hl 6 rfl) ?_
                                      refine lv_icmp_ne (tgt := 753) hx hb dL_books_659 (by decide) (fun c659 => ?_) (fun c659 => ?_)
                                      ·
                                        exact absurd rfl c659
                                      ·
                                        refine lv_aload_n hx hb dL_books_662 rfl (lv_at hl 11 rfl) ?_
                                        refine lv_bipush (v := 34) hx hb dL_books_663 (by decide) ?_
                                        refine lv_iconst (v := 0) hx hb dL_books_665 (by decide) ?_
                                        refine lqSi (As := [.ref (v 0), .int (34), .int (0)]) (rest := []) ⟨hx, hb, hml, hown, hts⟩ (c_ask_oldest l hl9 D T aK aV v B O g ln un nx pl f0 f1 f2 N K C nt hOI _) (va_cwS 3 hts (gC gl_L_call__) rfl rfl rfl (by decide +kernel) ⟨Nat.le_of_ble_eq_true rfl, Nat.le_of_ble_eq_true rfl⟩) (Foc.pre [(q15, .inl (T 0, 5, .inl fa)), (q11, .inl (T 0, 4, .inl fc))] _ _) hC hNC hK hP hD hS hA rfl hl.1 rfl (Nat.le_of_ble_eq_true rfl) ⟨by show _ ≤ 2200; omega, by show _ ≤ 13200; omega⟩ dL_books_666 (fun H locs hP hD hS => ?_)
                                        have hP : va_P D vwCl ((q15, .inl (T 0, 5, .inl fa)) :: (q11, .inl (T 0, 4, .inl fc)) :: WIN T v B O g ln un nx pl f0 f1 f2) H := hP
                                        have hD : va_D A ((q15, .inl (T 0, 5, .inl fa)) :: (q11, .inl (T 0, 4, .inl fc)) :: WIN T v B O g ln un nx pl f0 f1 f2) := hD
                                        refine endI (r := bo.elim (-101) nI) (by rw [first_best hOV, ← hbo9]) ?_
                                        refine lv_iload hx hb dL_books_669 (lv_at hl 4 rfl) ?_
                                        refine lv_icmp_ne (tgt := 753) hx hb dL_books_671 (by decide) (fun c671 => ?_) (fun c671 => ?_)
                                        ·
                                          exact absurd rfl c671
                                        ·
                                          refine lv_aload_n hx hb dL_books_674 rfl (lv_at hl 11 rfl) ?_
                                          refine lv_bipush (v := 35) hx hb dL_books_675 (by decide) ?_
                                          refine lv_iconst (v := 0) hx hb dL_books_677 (by decide) ?_
                                          refine lqSi (As := [.ref (v 0), .int (35), .int (0)]) (rest := []) ⟨hx, hb, hml, hown, hts⟩ (c_ask_angriest l hl9 D T aK aV v B O g ln un nx pl f0 f1 f2 N K C nt hOI _) (va_cwS 3 hts (gC gl_L_call__) rfl rfl rfl (by decide +kernel) ⟨Nat.le_of_ble_eq_true rfl, Nat.le_of_ble_eq_true rfl⟩) (Foc.pre [(q15, .inl (T 0, 5, .inl fa)), (q11, .inl (T 0, 4, .inl fc))] _ _) hC hNC hK hP hD hS hA rfl hl.1 rfl (Nat.le_of_ble_eq_true rfl) ⟨by show _ ≤ 2200; omega, by show _ ≤ 13200; omega⟩ dL_books_678 (fun H locs hP hD hS => ?_)
                                          have hP : va_P D vwCl ((q15, .inl (T 0, 5, .inl fa)) :: (q11, .inl (T 0, 4, .inl fc)) :: WIN T v B O g ln un nx pl f0 f1 f2) H := hP
                                          have hD : va_D A ((q15, .inl (T 0, 5, .inl fa)) :: (q11, .inl (T 0, 4, .inl fc)) :: WIN T v B O g ln un nx pl f0 f1 f2) := hD
                                          refine endI (r := ba.elim (-101) nI) (by rw [most_best hOV, ← hba9]) ?_
                                          refine lv_iload hx hb dL_books_681 (lv_at hl 3 rfl) ?_
                                          refine lv_icmp_ne (tgt := 753) hx hb dL_books_683 (by decide) (fun c683 => ?_) (fun c683 => ?_)
                                          ·
                                            exact absurd rfl c683
                                          ·
                                            refine lv_aload_n hx hb dL_books_686 rfl (lv_at hl 11 rfl) ?_
                                            refine lv_bipush (v := 37) hx hb dL_books_687 (by decide) ?_
                                            refine lv_iconst (v := 0) hx hb dL_books_689 (by decide) ?_
                                            refine lqSi (As := [.ref (v 0), .int (37), .int (0)]) (rest := []) ⟨hx, hb, hml, hown, hts⟩ (c_ask_darkestClerk l hl9 D T aK aV v B O g ln un nx pl f0 f1 f2 N K C nt hOI _) (va_cwS 3 hts (gC gl_L_call__) rfl rfl rfl (by decide +kernel) ⟨Nat.le_of_ble_eq_true rfl, Nat.le_of_ble_eq_true rfl⟩) (Foc.pre [(q15, .inl (T 0, 5, .inl fa)), (q11, .inl (T 0, 4, .inl fc))] _ _) hC hNC hK hP hD hS hA rfl hl.1 rfl (Nat.le_of_ble_eq_true rfl) ⟨by show _ ≤ 2200; omega, by show _ ≤ 13200; omega⟩ dL_books_690 (fun H locs hP hD hS => ?_)
                                            have hP : va_P D vwCl ((q15, .inl (T 0, 5, .inl fa)) :: (q11, .inl (T 0, 4, .inl fc)) :: WIN T v B O g ln un nx pl f0 f1 f2) H := hP
                                            have hD : va_D A ((q15, .inl (T 0, 5, .inl fa)) :: (q11, .inl (T 0, 4, .inl fc)) :: WIN T v B O g ln un nx pl f0 f1 f2) := hD
                                            refine endI (r := bd.elim (-101) nI) (by rw [dark_best hOV, ← hbd9]) ?_
                                            refine lv_iload hx hb dL_books_693 (lv_at hl 1 rfl) ?_
                                            refine lv_icmp_ne (tgt := 753) hx hb dL_books_695 (by decide) (fun c695 => ?_) (fun c695 => ?_)
                                            ·
                                              exact absurd rfl c695
                                            ·
                                              refine lv_aload_n hx hb dL_books_698 rfl (lv_at hl 11 rfl) ?_
                                              refine wqVd (As := []) (rest := []) ⟨hx, hb, hml, hown, hts⟩ (c_X9_meanWait l D T v B O g ln un nx pl f0 f1 f2 N K C nt hOI _) (cwV 0 hts (gC gl_X9_meanWait) rfl rfl rfl (by decide +kernel) ⟨Nat.le_of_ble_eq_true rfl, Nat.le_of_ble_eq_true rfl⟩) (Foc.pre [(q15, .inl (T 0, 5, .inl fa)), (q11, .inl (T 0, 4, .inl fc))] _ _) hK hP hD hS hA 0 rfl rfl rfl hl.1 rfl (Nat.le_of_ble_eq_true rfl) ⟨by show _ ≤ 2200; omega, by show _ ≤ 13200; omega⟩ dL_books_699 (fun H locs hP hD hS => ?_)
                                              have hP : va_P D vwCl ((q15, .inl (T 0, 5, .inl fa)) :: (q11, .inl (T 0, 4, .inl fc)) :: WIN T v B O g ln un nx pl f0 f1 f2) H := hP
                                              have hD : va_D A ((q15, .inl (T 0, 5, .inl fa)) :: (q11, .inl (T 0, 4, .inl fc)) :: WIN T v B O g ln un nx pl f0 f1 f2) := hD
                                              refine lv_aload_n hx hb dL_books_702 rfl (lv_at hl 8 rfl) ?_
                                              refine lv_iconst (v := 1) hx hb dL_books_703 (by decide) ?_
                                              refine aldI hx hb hK hP 1 0 rfl rfl (1) rfl (by omega) (by decide) dL_books_704 ?_
                                              refine lv_if_ne (tgt := 712) hx hb dL_books_705 (by decide) (fun c705 => ?_) (fun c705 => ?_)
                                              ·
                                                have c705 : ¬ fc 1 = 0 := c705
                                                refine lv_iload hx hb dL_books_712 (lv_at hl 5 rfl) ?_
                                                refine lv_i2d hx hb dL_books_714 ?_
                                                refine lv_aload_n hx hb dL_books_715 rfl (lv_at hl 8 rfl) ?_
                                                refine lv_iconst (v := 1) hx hb dL_books_716 (by decide) ?_
                                                refine aldI hx hb hK hP 1 0 rfl rfl (1) rfl (by omega) (by decide) dL_books_717 ?_
                                                refine lv_i2d hx hb dL_books_718 ?_
                                                refine lv_ddiv hx hb dL_books_719 (ddiv_ok _ _ c705) ?_
                                                refine lv_dcmp hx hb dL_books_720 ?_
                                                refine endI (r := 0) (dcmp_0 (by first | (rw [hS9, hf1]; exact if_neg c705) | (rw [hS9, hf1]; exact if_pos c705)) (mean_nn _ _)) ?_
                                                refine lv_if_ne (tgt := 753) hx hb dL_books_721 (by decide) (fun c721 => ?_) (fun c721 => ?_)
                                                ·
                                                  exact absurd c721 (by decide)
                                                ·
                                                  refine lv_aload_n hx hb dL_books_724 rfl (lv_at hl 11 rfl) ?_
                                                  refine wqVf (As := []) (rest := []) ⟨hx, hb, hml, hown, hts⟩ (c_X9_answeredShare l D T v B O g ln un nx pl f0 f1 f2 N K C nt hOI _) (cwV 0 hts (gC gl_X9_answeredShare) rfl rfl rfl (by decide +kernel) ⟨Nat.le_of_ble_eq_true rfl, Nat.le_of_ble_eq_true rfl⟩) (Foc.pre [(q15, .inl (T 0, 5, .inl fa)), (q11, .inl (T 0, 4, .inl fc))] _ _) hK hP hD hS hA 0 rfl rfl rfl hl.1 rfl (Nat.le_of_ble_eq_true rfl) ⟨by show _ ≤ 2200; omega, by show _ ≤ 13200; omega⟩ dL_books_725 (fun H locs hP hD hS => ?_)
                                                  have hP : va_P D vwCl ((q15, .inl (T 0, 5, .inl fa)) :: (q11, .inl (T 0, 4, .inl fc)) :: WIN T v B O g ln un nx pl f0 f1 f2) H := hP
                                                  have hD : va_D A ((q15, .inl (T 0, 5, .inl fa)) :: (q11, .inl (T 0, 4, .inl fc)) :: WIN T v B O g ln un nx pl f0 f1 f2) := hD
                                                  refine lv_iload hx hb dL_books_728 (lv_at hl 0 rfl) ?_
                                                  refine lv_if_ne (tgt := 737) hx hb dL_books_730 (by decide) (fun c730 => ?_) (fun c730 => ?_)
                                                  ·
                                                    have c730 : ¬ nI N - fc 0 = 0 := c730
                                                    refine lv_aload_n hx hb dL_books_737 rfl (lv_at hl 8 rfl) ?_
                                                    refine lv_iconst (v := 1) hx hb dL_books_738 (by decide) ?_
                                                    refine aldI hx hb hK hP 1 0 rfl rfl (1) rfl (by omega) (by decide) dL_books_739 ?_
                                                    refine lv_i2f hx hb dL_books_740 ?_
                                                    refine lv_iload hx hb dL_books_741 (lv_at hl 0 rfl) ?_
                                                    refine lv_i2f hx hb dL_books_743 ?_
                                                    refine lv_fdiv hx hb dL_books_744 (fdiv_ok (by rw [← hf1]; exact hcnt) (by rw [← hf0]; exact hdon) c730) ?_
                                                    refine lv_fcmp hx hb dL_books_745 ?_
                                                    refine endI (r := 0) (fcmp_0 (by first | (rw [hf0, hf1]; exact if_neg c730) | (rw [hf0, hf1]; exact if_pos c730)) (share_nn hcnt hdon)) ?_
                                                    refine lv_if_ne (tgt := 753) hx hb dL_books_746 (by decide) (fun c746 => ?_) (fun c746 => ?_)
                                                    ·
                                                      exact absurd c746 (by decide)
                                                    ·
                                                      refine lv_iconst (v := 1) hx hb dL_books_749 (by decide) ?_
                                                      refine lv_goto (tgt := 754) hx hb dL_books_750 (by decide) ?_
                                                      refine endI (r := 1) (by rfl) ?_
                                                      obtain ⟨hP, hD⟩ := wTail (x := [(q15, .inl (T 0, 5, .inl fa)), (q11, .inl (T 0, 4, .inl fc))]) hP hD
                                                      exact hret _ _ _ _ _ _ dL_books_754 hP hD hS (by omega) (by omega)
                                                  ·
                                                    have c730 : nI N - fc 0 = 0 := c730
                                                    refine lv_fconst0 hx hb dL_books_733 ?_
                                                    refine lv_goto (tgt := 745) hx hb dL_books_734 (by decide) ?_
                                                    refine lv_fcmp hx hb dL_books_745 ?_
                                                    refine endI (r := 0) (fcmp_0 (by first | (rw [hf0, hf1]; exact if_neg c730) | (rw [hf0, hf1]; exact if_pos c730)) (share_nn hcnt hdon)) ?_
                                                    refine lv_if_ne (tgt := 753) hx hb dL_books_746 (by decide) (fun c746 => ?_) (fun c746 => ?_)
                                                    ·
                                                      exact absurd c746 (by decide)
                                                    ·
                                                      refine lv_iconst (v := 1) hx hb dL_books_749 (by decide) ?_
                                                      refine lv_goto (tgt := 754) hx hb dL_books_750 (by decide) ?_
                                                      refine endI (r := 1) (by rfl) ?_
                                                      obtain ⟨hP, hD⟩ := wTail (x := [(q15, .inl (T 0, 5, .inl fa)), (q11, .inl (T 0, 4, .inl fc))]) hP hD
                                                      exact hret _ _ _ _ _ _ dL_books_754 hP hD hS (by omega) (by omega)
                                              ·
                                                have c705 : fc 1 = 0 := c705
                                                refine lv_dconst0 hx hb dL_books_708 ?_
                                                refine lv_goto (tgt := 720) hx hb dL_books_709 (by decide) ?_
                                                refine lv_dcmp hx hb dL_books_720 ?_
                                                refine endI (r := 0) (dcmp_0 (by first | (rw [hS9, hf1]; exact if_neg c705) | (rw [hS9, hf1]; exact if_pos c705)) (mean_nn _ _)) ?_
                                                refine lv_if_ne (tgt := 753) hx hb dL_books_721 (by decide) (fun c721 => ?_) (fun c721 => ?_)
                                                ·
                                                  exact absurd c721 (by decide)
                                                ·
                                                  refine lv_aload_n hx hb dL_books_724 rfl (lv_at hl 11 rfl) ?_
                                                  refine wqVf (As := []) (rest := []) ⟨hx, hb, hml, hown, hts⟩ (c_X9_answeredShare l D T v B O g ln un nx pl f0 f1 f2 N K C nt hOI _) (cwV 0 hts (gC gl_X9_answeredShare) rfl rfl rfl (by decide +kernel) ⟨Nat.le_of_ble_eq_true rfl, Nat.le_of_ble_eq_true rfl⟩) (Foc.pre [(q15, .inl (T 0, 5, .inl fa)), (q11, .inl (T 0, 4, .inl fc))] _ _) hK hP hD hS hA 0 rfl rfl rfl hl.1 rfl (Nat.le_of_ble_eq_true rfl) ⟨by show _ ≤ 2200; omega, by show _ ≤ 13200; omega⟩ dL_books_725 (fun H locs hP hD hS => ?_)
                                                  have hP : va_P D vwCl ((q15, .inl (T 0, 5, .inl fa)) :: (q11, .inl (T 0, 4, .inl fc)) :: WIN T v B O g ln un nx pl f0 f1 f2) H := hP
                                                  have hD : va_D A ((q15, .inl (T 0, 5, .inl fa)) :: (q11, .inl (T 0, 4, .inl fc)) :: WIN T v B O g ln un nx pl f0 f1 f2) := hD
                                                  refine lv_iload hx hb dL_books_728 (lv_at hl 0 rfl) ?_
                                                  refine lv_if_ne (tgt := 737) hx hb dL_books_730 (by decide) (fun c730 => ?_) (fun c730 => ?_)
                                                  ·
                                                    have c730 : ¬ nI N - fc 0 = 0 := c730
                                                    refine lv_aload_n hx hb dL_books_737 rfl (lv_at hl 8 rfl) ?_
                                                    refine lv_iconst (v := 1) hx hb dL_books_738 (by decide) ?_
                                                    refine aldI hx hb hK hP 1 0 rfl rfl (1) rfl (by omega) (by decide) dL_books_739 ?_
                                                    refine lv_i2f hx hb dL_books_740 ?_
                                                    refine lv_iload hx hb dL_books_741 (lv_at hl 0 rfl) ?_
                                                    refine lv_i2f hx hb dL_books_743 ?_
                                                    refine lv_fdiv hx hb dL_books_744 (fdiv_ok (by rw [← hf1]; exact hcnt) (by rw [← hf0]; exact hdon) c730) ?_
                                                    refine lv_fcmp hx hb dL_books_745 ?_
                                                    refine endI (r := 0) (fcmp_0 (by first | (rw [hf0, hf1]; exact if_neg c730) | (rw [hf0, hf1]; exact if_pos c730)) (share_nn hcnt hdon)) ?_
                                                    refine lv_if_ne (tgt := 753) hx hb dL_books_746 (by decide) (fun c746 => ?_) (fun c746 => ?_)
                                                    ·
                                                      exact absurd c746 (by decide)
                                                    ·
                                                      refine lv_iconst (v := 1) hx hb dL_books_749 (by decide) ?_
                                                      refine lv_goto (tgt := 754) hx hb dL_books_750 (by decide) ?_
                                                      refine endI (r := 1) (by rfl) ?_
                                                      obtain ⟨hP, hD⟩ := wTail (x := [(q15, .inl (T 0, 5, .inl fa)), (q11, .inl (T 0, 4, .inl fc))]) hP hD
                                                      exact hret _ _ _ _ _ _ dL_books_754 hP hD hS (by omega) (by omega)
                                                  ·
                                                    have c730 : nI N - fc 0 = 0 := c730
                                                    refine lv_fconst0 hx hb dL_books_733 ?_
                                                    refine lv_goto (tgt := 745) hx hb dL_books_734 (by decide) ?_
                                                    refine lv_fcmp hx hb dL_books_745 ?_
                                                    refine endI (r := 0) (fcmp_0 (by first | (rw [hf0, hf1]; exact if_neg c730) | (rw [hf0, hf1]; exact if_pos c730)) (share_nn hcnt hdon)) ?_
                                                    refine lv_if_ne (tgt := 753) hx hb dL_books_746 (by decide) (fun c746 => ?_) (fun c746 => ?_)
                                                    ·
                                                      exact absurd c746 (by decide)
                                                    ·
                                                      refine lv_iconst (v := 1) hx hb dL_books_749 (by decide) ?_
                                                      refine lv_goto (tgt := 754) hx hb dL_books_750 (by decide) ?_
                                                      refine endI (r := 1) (by rfl) ?_
                                                      obtain ⟨hP, hD⟩ := wTail (x := [(q15, .inl (T 0, 5, .inl fa)), (q11, .inl (T 0, 4, .inl fc))]) hP hD
                                                      exact hret _ _ _ _ _ _ dL_books_754 hP hD hS (by omega) (by omega)
                          ·
                            have c512 : ¬ K ≤ k2 := fun h9 => c512 ((nI_leI (a := K) (b := k2) (by omega) (by omega)).mpr h9)
                            refine lv_iload hx hb dL_books_515 (lv_at hl 2 rfl) ?_
                            refine lv_if_eq (tgt := 601) hx hb dL_books_517 (by decide) (fun c517 => ?_) (fun c517 => ?_)
                            ·
                              exact absurd c517 (by decide)
                            ·
                              obtain ⟨oz, hoz, e3⟩ := hOV.oil k2 (by omega)
                              rcases bd with _ | d0
                              ·
                                have hl : lv_has ls 19 [(11, .int (nI k2)), (10, .int (-101)), (9, .int (1)), (8, .int (ba.elim (-101) nI)), (7, .int (bo.elim (-101) nI)), (6, .int (wt)), (5, .int (ag)), (4, .ref (q15)), (3, .ref (q11)), (2, .int (nI K)), (1, .int (nI N)), (0, .ref (v 0))] := hl
                                refine lv_aload_n hx hb dL_books_520 rfl (lv_at hl 11 rfl) ?_
                                refine lv_bipush (v := 39) hx hb dL_books_521 (by decide) ?_
                                refine lv_iload hx hb dL_books_523 (lv_at hl 0 rfl) ?_
                                refine lqSi (As := [.ref (v 0), .int (39), .int (nI k2)]) (rest := []) ⟨hx, hb, hml, hown, hts⟩ (c_ask_oilOf l hl9 D T aK aV v B O g ln un nx pl f0 f1 f2 k2 N K C nt hOI (by omega) _) (va_cwS 3 hts (gC gl_L_call__) rfl rfl rfl (by decide +kernel) ⟨Nat.le_of_ble_eq_true rfl, Nat.le_of_ble_eq_true rfl⟩) (Foc.pre [(q15, .inl (T 0, 5, .inl fa)), (q11, .inl (T 0, 4, .inl fc))] _ _) hC hNC hK hP hD hS hA rfl hl.1 rfl (Nat.le_of_ble_eq_true rfl) ⟨by show _ ≤ 2200; omega, by show _ ≤ 13200; omega⟩ dL_books_525 (fun H locs hP hD hS => ?_)
                                have hP : va_P D vwCl ((q15, .inl (T 0, 5, .inl fa)) :: (q11, .inl (T 0, 4, .inl fc)) :: WIN T v B O g ln un nx pl f0 f1 f2) H := hP
                                have hD : va_D A ((q15, .inl (T 0, 5, .inl fa)) :: (q11, .inl (T 0, 4, .inl fc)) :: WIN T v B O g ln un nx pl f0 f1 f2) := hD
                                refine endI (r := nI oz) (e3) ?_
                                refine lv_if_lt (tgt := 564) hx hb dL_books_528 (by decide) (fun c528 => ?_) (fun c528 => ?_)
                                ·
                                  have c528 : oz < 0 := (nI_ltI (a := oz) (b := 0) (by omega) (by omega)).mp c528
                                  exfalso; omega
                                ·
                                  have c528 : ¬ oz < 0 := fun h9 => c528 ((nI_ltI (a := oz) (b := 0) (by omega) (by omega)).mpr h9)
                                  refine lv_aload_n hx hb dL_books_531 rfl (lv_at hl 11 rfl) ?_
                                  refine lv_bipush (v := 39) hx hb dL_books_532 (by decide) ?_
                                  refine lv_iload hx hb dL_books_534 (lv_at hl 0 rfl) ?_
                                  refine lqSi (As := [.ref (v 0), .int (39), .int (nI k2)]) (rest := []) ⟨hx, hb, hml, hown, hts⟩ (c_ask_oilOf l hl9 D T aK aV v B O g ln un nx pl f0 f1 f2 k2 N K C nt hOI (by omega) _) (va_cwS 3 hts (gC gl_L_call__) rfl rfl rfl (by decide +kernel) ⟨Nat.le_of_ble_eq_true rfl, Nat.le_of_ble_eq_true rfl⟩) (Foc.pre [(q15, .inl (T 0, 5, .inl fa)), (q11, .inl (T 0, 4, .inl fc))] _ _) hC hNC hK hP hD hS hA rfl hl.1 rfl (Nat.le_of_ble_eq_true rfl) ⟨by show _ ≤ 2200; omega, by show _ ≤ 13200; omega⟩ dL_books_536 (fun H locs hP hD hS => ?_)
                                  have hP : va_P D vwCl ((q15, .inl (T 0, 5, .inl fa)) :: (q11, .inl (T 0, 4, .inl fc)) :: WIN T v B O g ln un nx pl f0 f1 f2) H := hP
                                  have hD : va_D A ((q15, .inl (T 0, 5, .inl fa)) :: (q11, .inl (T 0, 4, .inl fc)) :: WIN T v B O g ln un nx pl f0 f1 f2) := hD
                                  refine endI (r := nI oz) (e3) ?_
                                  refine lv_bipush (v := 100) hx hb dL_books_539 (by decide) ?_
                                  refine lv_icmp_ge (tgt := 564) hx hb dL_books_541 (by decide) (fun c541 => ?_) (fun c541 => ?_)
                                  ·
                                    have c541 : 100 ≤ oz := (nI_leI (a := 100) (b := oz) (by omega) (by omega)).mp c541
                                    exfalso; omega
                                  ·
                                    have c541 : ¬ 100 ≤ oz := fun h9 => c541 ((nI_leI (a := 100) (b := oz) (by omega) (by omega)).mpr h9)
                                    refine lv_aload_n hx hb dL_books_544 rfl (lv_at hl 11 rfl) ?_
                                    refine lv_bipush (v := 40) hx hb dL_books_545 (by decide) ?_
                                    refine lv_iload hx hb dL_books_547 (lv_at hl 0 rfl) ?_
                                    refine lqSi (As := [.ref (v 0), .int (40), .int (nI k2)]) (rest := []) ⟨hx, hb, hml, hown, hts⟩ (c_ask_answeredBy l hl9 D T aK aV v B O g ln un nx pl f0 f1 f2 k2 N K C nt hOI (by omega) _) (va_cwS 3 hts (gC gl_L_call__) rfl rfl rfl (by decide +kernel) ⟨Nat.le_of_ble_eq_true rfl, Nat.le_of_ble_eq_true rfl⟩) (Foc.pre [(q15, .inl (T 0, 5, .inl fa)), (q11, .inl (T 0, 4, .inl fc))] _ _) hC hNC hK hP hD hS hA rfl hl.1 rfl (Nat.le_of_ble_eq_true rfl) ⟨by show _ ≤ 2200; omega, by show _ ≤ 13200; omega⟩ dL_books_549 (fun H locs hP hD hS => ?_)
                                    have hP : va_P D vwCl ((q15, .inl (T 0, 5, .inl fa)) :: (q11, .inl (T 0, 4, .inl fc)) :: WIN T v B O g ln un nx pl f0 f1 f2) H := hP
                                    have hD : va_D A ((q15, .inl (T 0, 5, .inl fa)) :: (q11, .inl (T 0, 4, .inl fc)) :: WIN T v B O g ln un nx pl f0 f1 f2) := hD
                                    refine endI (r := fa k2) (by have h9 := hfa k2 (by omega); rw [cntI_done (by omega)] at h9; exact h9.symm) ?_
                                    refine lv_aload hx hb dL_books_552 (lv_at hl 7 rfl) ?_
                                    refine lv_iload hx hb dL_books_554 (lv_at hl 0 rfl) ?_
                                    refine aldI hx hb hK hP 0 0 rfl rfl (k2) rfl (by omega) (by decide) dL_books_556 ?_
                                    refine lv_icmp_ne (tgt := 564) hx hb dL_books_557 (by decide) (fun c557 => ?_) (fun c557 => ?_)
                                    ·
                                      exact absurd rfl c557
                                    ·
                                      refine lv_iconst (v := 1) hx hb dL_books_560 (by decide) ?_
                                      refine lv_goto (tgt := 565) hx hb dL_books_561 (by decide) ?_
                                      refine lv_istore (lv' := [(9, .int (1)), (11, .int (nI k2)), (10, .int (-101)), (8, .int (ba.elim (-101) nI)), (7, .int (bo.elim (-101) nI)), (6, .int (wt)), (5, .int (ag)), (4, .ref (q15)), (3, .ref (q11)), (2, .int (nI K)), (1, .int (nI N)), (0, .ref (v 0))]) hx hb dL_books_565 hl (by decide) rfl (fun ls hl => ?_)
                                      refine lv_iload hx hb dL_books_567 (lv_at hl 2 rfl) ?_
                                      refine lv_if_lt (tgt := 591) hx hb dL_books_569 (by decide) (fun c569 => ?_) (fun c569 => ?_)
                                      ·
                                        refine lv_iload hx hb dL_books_591 (lv_at hl 1 rfl) ?_
                                        refine lv_istore (lv' := [(10, .int (nI k2)), (9, .int (1)), (11, .int (nI k2)), (8, .int (ba.elim (-101) nI)), (7, .int (bo.elim (-101) nI)), (6, .int (wt)), (5, .int (ag)), (4, .ref (q15)), (3, .ref (q11)), (2, .int (nI K)), (1, .int (nI N)), (0, .ref (v 0))]) hx hb dL_books_593 hl (by decide) rfl (fun ls hl => ?_)
                                        refine lv_iinc (v := nI (k2 + 1)) (lv' := [(11, .int (nI (k2 + 1))), (10, .int (nI k2)), (9, .int (1)), (8, .int (ba.elim (-101) nI)), (7, .int (bo.elim (-101) nI)), (6, .int (wt)), (5, .int (ag)), (4, .ref (q15)), (3, .ref (q11)), (2, .int (nI K)), (1, .int (nI N)), (0, .ref (v 0))]) hx hb dL_books_595 hl (k := 2) rfl (nI_1 _) (by decide) rfl (fun ls hl => ?_)
                                        refine lv_goto (tgt := 509) hx hb dL_books_598 (by decide) ?_
                                        exact ih509 (k2 + 1) (some k2) _ _ (by omega) (by omega) (by first | exact best_new rfl (by omega) hbd | exact best_beat rfl (decide_eq_true (by rw [e3]; exact Int32.not_le.mp c588)) (by omega) hbd | exact best_stay rfl (decide_eq_false (by rw [e3]; exact Int32.not_lt.mpr c588)) (by omega) hbd) (by intro j h; first | (cases h; omega) | exact hbd2 j h) (by omega) (by omega) _ _ _ hP hD hS (lv_sub hl [0, 1, 2, 3, 4, 5, 6, 7, 8, 9, 10, 11] rfl)
                                      ·
                                        exact absurd c569 (by decide)
                              ·
                                have hd0 := hbd2 d0 rfl
                                have hl : lv_has ls 19 [(11, .int (nI k2)), (10, .int (nI d0)), (9, .int (1)), (8, .int (ba.elim (-101) nI)), (7, .int (bo.elim (-101) nI)), (6, .int (wt)), (5, .int (ag)), (4, .ref (q15)), (3, .ref (q11)), (2, .int (nI K)), (1, .int (nI N)), (0, .ref (v 0))] := hl
                                refine lv_aload_n hx hb dL_books_520 rfl (lv_at hl 11 rfl) ?_
                                refine lv_bipush (v := 39) hx hb dL_books_521 (by decide) ?_
                                refine lv_iload hx hb dL_books_523 (lv_at hl 0 rfl) ?_
                                refine lqSi (As := [.ref (v 0), .int (39), .int (nI k2)]) (rest := []) ⟨hx, hb, hml, hown, hts⟩ (c_ask_oilOf l hl9 D T aK aV v B O g ln un nx pl f0 f1 f2 k2 N K C nt hOI (by omega) _) (va_cwS 3 hts (gC gl_L_call__) rfl rfl rfl (by decide +kernel) ⟨Nat.le_of_ble_eq_true rfl, Nat.le_of_ble_eq_true rfl⟩) (Foc.pre [(q15, .inl (T 0, 5, .inl fa)), (q11, .inl (T 0, 4, .inl fc))] _ _) hC hNC hK hP hD hS hA rfl hl.1 rfl (Nat.le_of_ble_eq_true rfl) ⟨by show _ ≤ 2200; omega, by show _ ≤ 13200; omega⟩ dL_books_525 (fun H locs hP hD hS => ?_)
                                have hP : va_P D vwCl ((q15, .inl (T 0, 5, .inl fa)) :: (q11, .inl (T 0, 4, .inl fc)) :: WIN T v B O g ln un nx pl f0 f1 f2) H := hP
                                have hD : va_D A ((q15, .inl (T 0, 5, .inl fa)) :: (q11, .inl (T 0, 4, .inl fc)) :: WIN T v B O g ln un nx pl f0 f1 f2) := hD
                                refine endI (r := nI oz) (e3) ?_
                                refine lv_if_lt (tgt := 564) hx hb dL_books_528 (by decide) (fun c528 => ?_) (fun c528 => ?_)
                                ·
                                  have c528 : oz < 0 := (nI_ltI (a := oz) (b := 0) (by omega) (by omega)).mp c528
                                  exfalso; omega
                                ·
                                  have c528 : ¬ oz < 0 := fun h9 => c528 ((nI_ltI (a := oz) (b := 0) (by omega) (by omega)).mpr h9)
                                  refine lv_aload_n hx hb dL_books_531 rfl (lv_at hl 11 rfl) ?_
                                  refine lv_bipush (v := 39) hx hb dL_books_532 (by decide) ?_
                                  refine lv_iload hx hb dL_books_534 (lv_at hl 0 rfl) ?_
                                  refine lqSi (As := [.ref (v 0), .int (39), .int (nI k2)]) (rest := []) ⟨hx, hb, hml, hown, hts⟩ (c_ask_oilOf l hl9 D T aK aV v B O g ln un nx pl f0 f1 f2 k2 N K C nt hOI (by omega) _) (va_cwS 3 hts (gC gl_L_call__) rfl rfl rfl (by decide +kernel) ⟨Nat.le_of_ble_eq_true rfl, Nat.le_of_ble_eq_true rfl⟩) (Foc.pre [(q15, .inl (T 0, 5, .inl fa)), (q11, .inl (T 0, 4, .inl fc))] _ _) hC hNC hK hP hD hS hA rfl hl.1 rfl (Nat.le_of_ble_eq_true rfl) ⟨by show _ ≤ 2200; omega, by show _ ≤ 13200; omega⟩ dL_books_536 (fun H locs hP hD hS => ?_)
                                  have hP : va_P D vwCl ((q15, .inl (T 0, 5, .inl fa)) :: (q11, .inl (T 0, 4, .inl fc)) :: WIN T v B O g ln un nx pl f0 f1 f2) H := hP
                                  have hD : va_D A ((q15, .inl (T 0, 5, .inl fa)) :: (q11, .inl (T 0, 4, .inl fc)) :: WIN T v B O g ln un nx pl f0 f1 f2) := hD
                                  refine endI (r := nI oz) (e3) ?_
                                  refine lv_bipush (v := 100) hx hb dL_books_539 (by decide) ?_
                                  refine lv_icmp_ge (tgt := 564) hx hb dL_books_541 (by decide) (fun c541 => ?_) (fun c541 => ?_)
                                  ·
                                    have c541 : 100 ≤ oz := (nI_leI (a := 100) (b := oz) (by omega) (by omega)).mp c541
                                    exfalso; omega
                                  ·
                                    have c541 : ¬ 100 ≤ oz := fun h9 => c541 ((nI_leI (a := 100) (b := oz) (by omega) (by omega)).mpr h9)
                                    refine lv_aload_n hx hb dL_books_544 rfl (lv_at hl 11 rfl) ?_
                                    refine lv_bipush (v := 40) hx hb dL_books_545 (by decide) ?_
                                    refine lv_iload hx hb dL_books_547 (lv_at hl 0 rfl) ?_
                                    refine lqSi (As := [.ref (v 0), .int (40), .int (nI k2)]) (rest := []) ⟨hx, hb, hml, hown, hts⟩ (c_ask_answeredBy l hl9 D T aK aV v B O g ln un nx pl f0 f1 f2 k2 N K C nt hOI (by omega) _) (va_cwS 3 hts (gC gl_L_call__) rfl rfl rfl (by decide +kernel) ⟨Nat.le_of_ble_eq_true rfl, Nat.le_of_ble_eq_true rfl⟩) (Foc.pre [(q15, .inl (T 0, 5, .inl fa)), (q11, .inl (T 0, 4, .inl fc))] _ _) hC hNC hK hP hD hS hA rfl hl.1 rfl (Nat.le_of_ble_eq_true rfl) ⟨by show _ ≤ 2200; omega, by show _ ≤ 13200; omega⟩ dL_books_549 (fun H locs hP hD hS => ?_)
                                    have hP : va_P D vwCl ((q15, .inl (T 0, 5, .inl fa)) :: (q11, .inl (T 0, 4, .inl fc)) :: WIN T v B O g ln un nx pl f0 f1 f2) H := hP
                                    have hD : va_D A ((q15, .inl (T 0, 5, .inl fa)) :: (q11, .inl (T 0, 4, .inl fc)) :: WIN T v B O g ln un nx pl f0 f1 f2) := hD
                                    refine endI (r := fa k2) (by have h9 := hfa k2 (by omega); rw [cntI_done (by omega)] at h9; exact h9.symm) ?_
                                    refine lv_aload hx hb dL_books_552 (lv_at hl 7 rfl) ?_
                                    refine lv_iload hx hb dL_books_554 (lv_at hl 0 rfl) ?_
                                    refine aldI hx hb hK hP 0 0 rfl rfl (k2) rfl (by omega) (by decide) dL_books_556 ?_
                                    refine lv_icmp_ne (tgt := 564) hx hb dL_books_557 (by decide) (fun c557 => ?_) (fun c557 => ?_)
                                    ·
                                      exact absurd rfl c557
                                    ·
                                      refine lv_iconst (v := 1) hx hb dL_books_560 (by decide) ?_
                                      refine lv_goto (tgt := 565) hx hb dL_books_561 (by decide) ?_
                                      refine lv_istore (lv' := [(9, .int (1)), (11, .int (nI k2)), (10, .int (nI d0)), (8, .int (ba.elim (-101) nI)), (7, .int (bo.elim (-101) nI)), (6, .int (wt)), (5, .int (ag)), (4, .ref (q15)), (3, .ref (q11)), (2, .int (nI K)), (1, .int (nI N)), (0, .ref (v 0))]) hx hb dL_books_565 hl (by decide) rfl (fun ls hl => ?_)
                                      refine lv_iload hx hb dL_books_567 (lv_at hl 2 rfl) ?_
                                      refine lv_if_lt (tgt := 591) hx hb dL_books_569 (by decide) (fun c569 => ?_) (fun c569 => ?_)
                                      ·
                                        have c569 : d0 < 0 := (nI_ltI (a := d0) (b := 0) (by omega) (by omega)).mp c569
                                        exfalso; omega
                                      ·
                                        have c569 : ¬ d0 < 0 := fun h9 => c569 ((nI_ltI (a := d0) (b := 0) (by omega) (by omega)).mpr h9)
                                        refine lv_aload_n hx hb dL_books_572 rfl (lv_at hl 11 rfl) ?_
                                        refine lv_bipush (v := 39) hx hb dL_books_573 (by decide) ?_
                                        refine lv_iload hx hb dL_books_575 (lv_at hl 1 rfl) ?_
                                        refine lqSi (As := [.ref (v 0), .int (39), .int (nI k2)]) (rest := []) ⟨hx, hb, hml, hown, hts⟩ (c_ask_oilOf l hl9 D T aK aV v B O g ln un nx pl f0 f1 f2 k2 N K C nt hOI (by omega) _) (va_cwS 3 hts (gC gl_L_call__) rfl rfl rfl (by decide +kernel) ⟨Nat.le_of_ble_eq_true rfl, Nat.le_of_ble_eq_true rfl⟩) (Foc.pre [(q15, .inl (T 0, 5, .inl fa)), (q11, .inl (T 0, 4, .inl fc))] _ _) hC hNC hK hP hD hS hA rfl hl.1 rfl (Nat.le_of_ble_eq_true rfl) ⟨by show _ ≤ 2200; omega, by show _ ≤ 13200; omega⟩ dL_books_577 (fun H locs hP hD hS => ?_)
                                        have hP : va_P D vwCl ((q15, .inl (T 0, 5, .inl fa)) :: (q11, .inl (T 0, 4, .inl fc)) :: WIN T v B O g ln un nx pl f0 f1 f2) H := hP
                                        have hD : va_D A ((q15, .inl (T 0, 5, .inl fa)) :: (q11, .inl (T 0, 4, .inl fc)) :: WIN T v B O g ln un nx pl f0 f1 f2) := hD
                                        refine endI (r := nI oz) (e3) ?_
                                        refine lv_aload_n hx hb dL_books_580 rfl (lv_at hl 11 rfl) ?_
                                        refine lv_bipush (v := 39) hx hb dL_books_581 (by decide) ?_
                                        refine lv_iload hx hb dL_books_583 (lv_at hl 2 rfl) ?_
                                        refine lqSi (As := [.ref (v 0), .int (39), .int (nI d0)]) (rest := [.int (nI oz)]) ⟨hx, hb, hml, hown, hts⟩ (c_ask_oilOf l hl9 D T aK aV v B O g ln un nx pl f0 f1 f2 d0 N K C nt hOI (by omega) _) (va_cwS 3 hts (gC gl_L_call__) rfl rfl rfl (by decide +kernel) ⟨Nat.le_of_ble_eq_true rfl, Nat.le_of_ble_eq_true rfl⟩) (Foc.pre [(q15, .inl (T 0, 5, .inl fa)), (q11, .inl (T 0, 4, .inl fc))] _ _) hC hNC hK hP hD hS hA rfl hl.1 rfl (Nat.le_of_ble_eq_true rfl) ⟨by show _ ≤ 2200; omega, by show _ ≤ 13200; omega⟩ dL_books_585 (fun H locs hP hD hS => ?_)
                                        have hP : va_P D vwCl ((q15, .inl (T 0, 5, .inl fa)) :: (q11, .inl (T 0, 4, .inl fc)) :: WIN T v B O g ln un nx pl f0 f1 f2) H := hP
                                        have hD : va_D A ((q15, .inl (T 0, 5, .inl fa)) :: (q11, .inl (T 0, 4, .inl fc)) :: WIN T v B O g ln un nx pl f0 f1 f2) := hD
                                        refine lv_icmp_ge (tgt := 595) hx hb dL_books_588 (by decide) (fun c588 => ?_) (fun c588 => ?_)
                                        ·
                                          refine lv_iinc (v := nI (k2 + 1)) (lv' := [(11, .int (nI (k2 + 1))), (9, .int (1)), (10, .int (nI d0)), (8, .int (ba.elim (-101) nI)), (7, .int (bo.elim (-101) nI)), (6, .int (wt)), (5, .int (ag)), (4, .ref (q15)), (3, .ref (q11)), (2, .int (nI K)), (1, .int (nI N)), (0, .ref (v 0))]) hx hb dL_books_595 hl (k := 1) rfl (nI_1 _) (by decide) rfl (fun ls hl => ?_)
                                          refine lv_goto (tgt := 509) hx hb dL_books_598 (by decide) ?_
                                          exact ih509 (k2 + 1) (some d0) _ _ (by omega) (by omega) (by first | exact best_new rfl (by omega) hbd | exact best_beat rfl (decide_eq_true (by rw [e3]; exact Int32.not_le.mp c588)) (by omega) hbd | exact best_stay rfl (decide_eq_false (by rw [e3]; exact Int32.not_lt.mpr c588)) (by omega) hbd) (by intro j h; first | (cases h; omega) | exact hbd2 j h) (by omega) (by omega) _ _ _ hP hD hS (lv_sub hl [0, 2, 1, 3, 4, 5, 6, 7, 8, 9, 10, 11] rfl)
                                        ·
                                          refine lv_iload hx hb dL_books_591 (lv_at hl 1 rfl) ?_
                                          refine lv_istore (lv' := [(10, .int (nI k2)), (9, .int (1)), (11, .int (nI k2)), (8, .int (ba.elim (-101) nI)), (7, .int (bo.elim (-101) nI)), (6, .int (wt)), (5, .int (ag)), (4, .ref (q15)), (3, .ref (q11)), (2, .int (nI K)), (1, .int (nI N)), (0, .ref (v 0))]) hx hb dL_books_593 hl (by decide) rfl (fun ls hl => ?_)
                                          refine lv_iinc (v := nI (k2 + 1)) (lv' := [(11, .int (nI (k2 + 1))), (10, .int (nI k2)), (9, .int (1)), (8, .int (ba.elim (-101) nI)), (7, .int (bo.elim (-101) nI)), (6, .int (wt)), (5, .int (ag)), (4, .ref (q15)), (3, .ref (q11)), (2, .int (nI K)), (1, .int (nI N)), (0, .ref (v 0))]) hx hb dL_books_595 hl (k := 2) rfl (nI_1 _) (by decide) rfl (fun ls hl => ?_)
                                          refine lv_goto (tgt := 509) hx hb dL_books_598 (by decide) ?_
                                          exact ih509 (k2 + 1) (some k2) _ _ (by omega) (by omega) (by first | exact best_new rfl (by omega) hbd | exact best_beat rfl (decide_eq_true (by rw [e3]; exact Int32.not_le.mp c588)) (by omega) hbd | exact best_stay rfl (decide_eq_false (by rw [e3]; exact Int32.not_lt.mpr c588)) (by omega) hbd) (by intro j h; first | (cases h; omega) | exact hbd2 j h) (by omega) (by omega) _ _ _ hP hD hS (lv_sub hl [0, 1, 2, 3, 4, 5, 6, 7, 8, 9, 10, 11] rfl)
                      exact L509 _ 0 none _ _ (Nat.lt_succ_self _) (by omega) (by rfl) (by intro j h; cases h) (by omega) (by omega) _ _ _ hP hD hS (lv_sub hl [0, 1, 2, 3, 4, 5, 6, 7, 8, 9, 10, 11] rfl)
                    ·
                      have c106 : ¬ N ≤ k := fun h9 => c106 ((nI_leI (a := N) (b := k) (by omega) (by omega)).mpr h9)
                      refine lv_iload hx hb dL_books_109 (lv_at hl 1 rfl) ?_
                      refine lv_if_eq (tgt := 502) hx hb dL_books_111 (by decide) (fun c111 => ?_) (fun c111 => ?_)
                      ·
                        exact absurd c111 (by decide)
                      ·
                        obtain ⟨pp, qq, aa, ff, hpp, hqq, haa, ha9, hff, e4, e5, e6, e7, hst⟩ := hOV.co k (by omega)
                        rcases hst with ⟨e8, e10, hw56⟩ | ⟨cc, hc1g, hc2g, hc3g, e9, ⟨e8, jj, hjj, e10⟩ | ⟨e8, h14, jj, hjj, e10⟩ | ⟨e8, e10⟩⟩
                        rotate_left 1
                        ·
                          refine lv_aload_n hx hb dL_books_114 rfl (lv_at hl 10 rfl) ?_
                          refine lv_bipush (v := 27) hx hb dL_books_115 (by decide) ?_
                          refine lv_iload hx hb dL_books_117 (lv_at hl 0 rfl) ?_
                          refine lqSi (As := [.ref (v 0), .int (27), .int (nI k)]) (rest := []) ⟨hx, hb, hml, hown, hts⟩ (c_ask_isWaiting l hl9 D T aK aV v B O g ln un nx pl f0 f1 f2 k N K C nt hOI (by omega) _) (va_cwS 3 hts (gC gl_L_call__) rfl rfl rfl (by decide +kernel) ⟨Nat.le_of_ble_eq_true rfl, Nat.le_of_ble_eq_true rfl⟩) (Foc.pre [(q15, .inl (T 0, 5, .inl fa)), (q11, .inl (T 0, 4, .inl fc))] _ _) hC hNC hK hP hD hS hA rfl hl.1 rfl (Nat.le_of_ble_eq_true rfl) ⟨by show _ ≤ 2200; omega, by show _ ≤ 13200; omega⟩ dL_books_119 (fun H locs hP hD hS => ?_)
                          have hP : va_P D vwCl ((q15, .inl (T 0, 5, .inl fa)) :: (q11, .inl (T 0, 4, .inl fc)) :: WIN T v B O g ln un nx pl f0 f1 f2) H := hP
                          have hD : va_D A ((q15, .inl (T 0, 5, .inl fa)) :: (q11, .inl (T 0, 4, .inl fc)) :: WIN T v B O g ln un nx pl f0 f1 f2) := hD
                          refine endI (r := 0) (by rw [e8]; decide) ?_
                          refine lv_istore (lv' := [(11, .int (0)), (10, .int (nI k)), (9, .int (1)), (8, .int (ba.elim (-101) nI)), (7, .int (bo.elim (-101) nI)), (6, .int (wt)), (5, .int (ag)), (4, .ref (q15)), (3, .ref (q11)), (2, .int (nI K)), (1, .int (nI N)), (0, .ref (v 0))]) hx hb dL_books_122 hl (by decide) rfl (fun ls hl => ?_)
                          refine lv_aload_n hx hb dL_books_124 rfl (lv_at hl 11 rfl) ?_
                          refine lv_bipush (v := 28) hx hb dL_books_125 (by decide) ?_
                          refine lv_iload hx hb dL_books_127 (lv_at hl 1 rfl) ?_
                          refine lqSi (As := [.ref (v 0), .int (28), .int (nI k)]) (rest := []) ⟨hx, hb, hml, hown, hts⟩ (c_ask_isAnswered l hl9 D T aK aV v B O g ln un nx pl f0 f1 f2 k N K C nt hOI (by omega) _) (va_cwS 3 hts (gC gl_L_call__) rfl rfl rfl (by decide +kernel) ⟨Nat.le_of_ble_eq_true rfl, Nat.le_of_ble_eq_true rfl⟩) (Foc.pre [(q15, .inl (T 0, 5, .inl fa)), (q11, .inl (T 0, 4, .inl fc))] _ _) hC hNC hK hP hD hS hA rfl hl.1 rfl (Nat.le_of_ble_eq_true rfl) ⟨by show _ ≤ 2200; omega, by show _ ≤ 13200; omega⟩ dL_books_129 (fun H locs hP hD hS => ?_)
                          have hP : va_P D vwCl ((q15, .inl (T 0, 5, .inl fa)) :: (q11, .inl (T 0, 4, .inl fc)) :: WIN T v B O g ln un nx pl f0 f1 f2) H := hP
                          have hD : va_D A ((q15, .inl (T 0, 5, .inl fa)) :: (q11, .inl (T 0, 4, .inl fc)) :: WIN T v B O g ln un nx pl f0 f1 f2) := hD
                          refine endI (r := 1) (by rw [e8]; decide) ?_
                          refine lv_istore (lv' := [(12, .int (1)), (11, .int (0)), (10, .int (nI k)), (9, .int (1)), (8, .int (ba.elim (-101) nI)), (7, .int (bo.elim (-101) nI)), (6, .int (wt)), (5, .int (ag)), (4, .ref (q15)), (3, .ref (q11)), (2, .int (nI K)), (1, .int (nI N)), (0, .ref (v 0))]) hx hb dL_books_132 hl (by decide) rfl (fun ls hl => ?_)
                          refine lv_aload_n hx hb dL_books_134 rfl (lv_at hl 12 rfl) ?_
                          refine lv_bipush (v := 29) hx hb dL_books_135 (by decide) ?_
                          refine lv_iload hx hb dL_books_137 (lv_at hl 2 rfl) ?_
                          refine lqSi (As := [.ref (v 0), .int (29), .int (nI k)]) (rest := []) ⟨hx, hb, hml, hown, hts⟩ (c_ask_isDismissed l hl9 D T aK aV v B O g ln un nx pl f0 f1 f2 k N K C nt hOI (by omega) _) (va_cwS 3 hts (gC gl_L_call__) rfl rfl rfl (by decide +kernel) ⟨Nat.le_of_ble_eq_true rfl, Nat.le_of_ble_eq_true rfl⟩) (Foc.pre [(q15, .inl (T 0, 5, .inl fa)), (q11, .inl (T 0, 4, .inl fc))] _ _) hC hNC hK hP hD hS hA rfl hl.1 rfl (Nat.le_of_ble_eq_true rfl) ⟨by show _ ≤ 2200; omega, by show _ ≤ 13200; omega⟩ dL_books_139 (fun H locs hP hD hS => ?_)
                          have hP : va_P D vwCl ((q15, .inl (T 0, 5, .inl fa)) :: (q11, .inl (T 0, 4, .inl fc)) :: WIN T v B O g ln un nx pl f0 f1 f2) H := hP
                          have hD : va_D A ((q15, .inl (T 0, 5, .inl fa)) :: (q11, .inl (T 0, 4, .inl fc)) :: WIN T v B O g ln un nx pl f0 f1 f2) := hD
                          refine endI (r := 0) (by rw [e8]; decide) ?_
                          refine lv_istore (lv' := [(13, .int (0)), (12, .int (1)), (11, .int (0)), (10, .int (nI k)), (9, .int (1)), (8, .int (ba.elim (-101) nI)), (7, .int (bo.elim (-101) nI)), (6, .int (wt)), (5, .int (ag)), (4, .ref (q15)), (3, .ref (q11)), (2, .int (nI K)), (1, .int (nI N)), (0, .ref (v 0))]) hx hb dL_books_142 hl (by decide) rfl (fun ls hl => ?_)
                          refine lv_aload_n hx hb dL_books_144 rfl (lv_at hl 13 rfl) ?_
                          refine lv_bipush (v := 30) hx hb dL_books_145 (by decide) ?_
                          refine lv_iload hx hb dL_books_147 (lv_at hl 3 rfl) ?_
                          refine lqSi (As := [.ref (v 0), .int (30), .int (nI k)]) (rest := []) ⟨hx, hb, hml, hown, hts⟩ (c_ask_isGivenUp l hl9 D T aK aV v B O g ln un nx pl f0 f1 f2 k N K C nt hOI (by omega) _) (va_cwS 3 hts (gC gl_L_call__) rfl rfl rfl (by decide +kernel) ⟨Nat.le_of_ble_eq_true rfl, Nat.le_of_ble_eq_true rfl⟩) (Foc.pre [(q15, .inl (T 0, 5, .inl fa)), (q11, .inl (T 0, 4, .inl fc))] _ _) hC hNC hK hP hD hS hA rfl hl.1 rfl (Nat.le_of_ble_eq_true rfl) ⟨by show _ ≤ 2200; omega, by show _ ≤ 13200; omega⟩ dL_books_149 (fun H locs hP hD hS => ?_)
                          have hP : va_P D vwCl ((q15, .inl (T 0, 5, .inl fa)) :: (q11, .inl (T 0, 4, .inl fc)) :: WIN T v B O g ln un nx pl f0 f1 f2) H := hP
                          have hD : va_D A ((q15, .inl (T 0, 5, .inl fa)) :: (q11, .inl (T 0, 4, .inl fc)) :: WIN T v B O g ln un nx pl f0 f1 f2) := hD
                          refine endI (r := 0) (by rw [e8]; decide) ?_
                          refine lv_istore (lv' := [(14, .int (0)), (13, .int (0)), (12, .int (1)), (11, .int (0)), (10, .int (nI k)), (9, .int (1)), (8, .int (ba.elim (-101) nI)), (7, .int (bo.elim (-101) nI)), (6, .int (wt)), (5, .int (ag)), (4, .ref (q15)), (3, .ref (q11)), (2, .int (nI K)), (1, .int (nI N)), (0, .ref (v 0))]) hx hb dL_books_152 hl (by decide) rfl (fun ls hl => ?_)
                          refine lv_aload_n hx hb dL_books_154 rfl (lv_at hl 14 rfl) ?_
                          refine lv_bipush (v := 26) hx hb dL_books_155 (by decide) ?_
                          refine lv_iload hx hb dL_books_157 (lv_at hl 4 rfl) ?_
                          refine lqSi (As := [.ref (v 0), .int (26), .int (nI k)]) (rest := []) ⟨hx, hb, hml, hown, hts⟩ (c_ask_filedIn l hl9 D T aK aV v B O g ln un nx pl f0 f1 f2 k N K C nt hOI (by omega) _) (va_cwS 3 hts (gC gl_L_call__) rfl rfl rfl (by decide +kernel) ⟨Nat.le_of_ble_eq_true rfl, Nat.le_of_ble_eq_true rfl⟩) (Foc.pre [(q15, .inl (T 0, 5, .inl fa)), (q11, .inl (T 0, 4, .inl fc))] _ _) hC hNC hK hP hD hS hA rfl hl.1 rfl (Nat.le_of_ble_eq_true rfl) ⟨by show _ ≤ 2200; omega, by show _ ≤ 13200; omega⟩ dL_books_159 (fun H locs hP hD hS => ?_)
                          have hP : va_P D vwCl ((q15, .inl (T 0, 5, .inl fa)) :: (q11, .inl (T 0, 4, .inl fc)) :: WIN T v B O g ln un nx pl f0 f1 f2) H := hP
                          have hD : va_D A ((q15, .inl (T 0, 5, .inl fa)) :: (q11, .inl (T 0, 4, .inl fc)) :: WIN T v B O g ln un nx pl f0 f1 f2) := hD
                          refine endI (r := nI ff) (e7) ?_
                          refine lv_istore (lv' := [(15, .int (nI ff)), (14, .int (0)), (13, .int (0)), (12, .int (1)), (11, .int (0)), (10, .int (nI k)), (9, .int (1)), (8, .int (ba.elim (-101) nI)), (7, .int (bo.elim (-101) nI)), (6, .int (wt)), (5, .int (ag)), (4, .ref (q15)), (3, .ref (q11)), (2, .int (nI K)), (1, .int (nI N)), (0, .ref (v 0))]) hx hb dL_books_162 hl (by decide) rfl (fun ls hl => ?_)
                          refine lv_aload_n hx hb dL_books_164 rfl (lv_at hl 15 rfl) ?_
                          refine lv_bipush (v := 31) hx hb dL_books_165 (by decide) ?_
                          refine lv_iload hx hb dL_books_167 (lv_at hl 5 rfl) ?_
                          refine lqSi (As := [.ref (v 0), .int (31), .int (nI k)]) (rest := []) ⟨hx, hb, hml, hown, hts⟩ (c_ask_closedIn l hl9 D T aK aV v B O g ln un nx pl f0 f1 f2 k N K C nt hOI (by omega) _) (va_cwS 3 hts (gC gl_L_call__) rfl rfl rfl (by decide +kernel) ⟨Nat.le_of_ble_eq_true rfl, Nat.le_of_ble_eq_true rfl⟩) (Foc.pre [(q15, .inl (T 0, 5, .inl fa)), (q11, .inl (T 0, 4, .inl fc))] _ _) hC hNC hK hP hD hS hA rfl hl.1 rfl (Nat.le_of_ble_eq_true rfl) ⟨by show _ ≤ 2200; omega, by show _ ≤ 13200; omega⟩ dL_books_169 (fun H locs hP hD hS => ?_)
                          have hP : va_P D vwCl ((q15, .inl (T 0, 5, .inl fa)) :: (q11, .inl (T 0, 4, .inl fc)) :: WIN T v B O g ln un nx pl f0 f1 f2) H := hP
                          have hD : va_D A ((q15, .inl (T 0, 5, .inl fa)) :: (q11, .inl (T 0, 4, .inl fc)) :: WIN T v B O g ln un nx pl f0 f1 f2) := hD
                          refine endI (r := nI cc) (by rw [if_neg (by rw [e8]; decide)]; exact e9) ?_
                          refine lv_istore (lv' := [(16, .int (nI cc)), (15, .int (nI ff)), (14, .int (0)), (13, .int (0)), (12, .int (1)), (11, .int (0)), (10, .int (nI k)), (9, .int (1)), (8, .int (ba.elim (-101) nI)), (7, .int (bo.elim (-101) nI)), (6, .int (wt)), (5, .int (ag)), (4, .ref (q15)), (3, .ref (q11)), (2, .int (nI K)), (1, .int (nI N)), (0, .ref (v 0))]) hx hb dL_books_172 hl (by decide) rfl (fun ls hl => ?_)
                          refine lv_aload_n hx hb dL_books_174 rfl (lv_at hl 16 rfl) ?_
                          refine lv_bipush (v := 32) hx hb dL_books_175 (by decide) ?_
                          refine lv_iload hx hb dL_books_177 (lv_at hl 6 rfl) ?_
                          refine lqSi (As := [.ref (v 0), .int (32), .int (nI k)]) (rest := []) ⟨hx, hb, hml, hown, hts⟩ (c_ask_clerkOf l hl9 D T aK aV v B O g ln un nx pl f0 f1 f2 k N K C nt hOI (by omega) _) (va_cwS 3 hts (gC gl_L_call__) rfl rfl rfl (by decide +kernel) ⟨Nat.le_of_ble_eq_true rfl, Nat.le_of_ble_eq_true rfl⟩) (Foc.pre [(q15, .inl (T 0, 5, .inl fa)), (q11, .inl (T 0, 4, .inl fc))] _ _) hC hNC hK hP hD hS hA rfl hl.1 rfl (Nat.le_of_ble_eq_true rfl) ⟨by show _ ≤ 2200; omega, by show _ ≤ 13200; omega⟩ dL_books_179 (fun H locs hP hD hS => ?_)
                          have hP : va_P D vwCl ((q15, .inl (T 0, 5, .inl fa)) :: (q11, .inl (T 0, 4, .inl fc)) :: WIN T v B O g ln un nx pl f0 f1 f2) H := hP
                          have hD : va_D A ((q15, .inl (T 0, 5, .inl fa)) :: (q11, .inl (T 0, 4, .inl fc)) :: WIN T v B O g ln un nx pl f0 f1 f2) := hD
                          refine endI (r := nI jj) (by rw [if_neg (by rw [e10]; exact nI_nneg (by omega) (by decide))]; exact e10) ?_
                          refine lv_istore (lv' := [(17, .int (nI jj)), (16, .int (nI cc)), (15, .int (nI ff)), (14, .int (0)), (13, .int (0)), (12, .int (1)), (11, .int (0)), (10, .int (nI k)), (9, .int (1)), (8, .int (ba.elim (-101) nI)), (7, .int (bo.elim (-101) nI)), (6, .int (wt)), (5, .int (ag)), (4, .ref (q15)), (3, .ref (q11)), (2, .int (nI K)), (1, .int (nI N)), (0, .ref (v 0))]) hx hb dL_books_182 hl (by decide) rfl (fun ls hl => ?_)
                          refine lv_aload_n hx hb dL_books_184 rfl (lv_at hl 17 rfl) ?_
                          refine lv_bipush (v := 25) hx hb dL_books_185 (by decide) ?_
                          refine lv_iload hx hb dL_books_187 (lv_at hl 7 rfl) ?_
                          refine lqSi (As := [.ref (v 0), .int (25), .int (nI k)]) (rest := []) ⟨hx, hb, hml, hown, hts⟩ (c_ask_angerOf l hl9 D T aK aV v B O g ln un nx pl f0 f1 f2 k N K C nt hOI (by omega) _) (va_cwS 3 hts (gC gl_L_call__) rfl rfl rfl (by decide +kernel) ⟨Nat.le_of_ble_eq_true rfl, Nat.le_of_ble_eq_true rfl⟩) (Foc.pre [(q15, .inl (T 0, 5, .inl fa)), (q11, .inl (T 0, 4, .inl fc))] _ _) hC hNC hK hP hD hS hA rfl hl.1 rfl (Nat.le_of_ble_eq_true rfl) ⟨by show _ ≤ 2200; omega, by show _ ≤ 13200; omega⟩ dL_books_189 (fun H locs hP hD hS => ?_)
                          have hP : va_P D vwCl ((q15, .inl (T 0, 5, .inl fa)) :: (q11, .inl (T 0, 4, .inl fc)) :: WIN T v B O g ln un nx pl f0 f1 f2) H := hP
                          have hD : va_D A ((q15, .inl (T 0, 5, .inl fa)) :: (q11, .inl (T 0, 4, .inl fc)) :: WIN T v B O g ln un nx pl f0 f1 f2) := hD
                          refine endI (r := nI aa) (e6) ?_
                          refine lv_istore (lv' := [(18, .int (nI aa)), (17, .int (nI jj)), (16, .int (nI cc)), (15, .int (nI ff)), (14, .int (0)), (13, .int (0)), (12, .int (1)), (11, .int (0)), (10, .int (nI k)), (9, .int (1)), (8, .int (ba.elim (-101) nI)), (7, .int (bo.elim (-101) nI)), (6, .int (wt)), (5, .int (ag)), (4, .ref (q15)), (3, .ref (q11)), (2, .int (nI K)), (1, .int (nI N)), (0, .ref (v 0))]) hx hb dL_books_192 hl (by decide) rfl (fun ls hl => ?_)
                          refine lv_iload hx hb dL_books_194 (lv_at hl 7 rfl) ?_
                          refine lv_iload hx hb dL_books_196 (lv_at hl 6 rfl) ?_
                          refine lv_iadd hx hb dL_books_198 ?_
                          refine endI (r := 1) (by decide) ?_
                          refine lv_iload hx hb dL_books_199 (lv_at hl 5 rfl) ?_
                          refine lv_iadd hx hb dL_books_201 ?_
                          refine endI (r := 1) (by decide) ?_
                          refine lv_iload hx hb dL_books_202 (lv_at hl 4 rfl) ?_
                          refine lv_iadd hx hb dL_books_204 ?_
                          refine endI (r := 1) (by decide) ?_
                          refine lv_iconst (v := 1) hx hb dL_books_205 (by decide) ?_
                          refine lv_icmp_ne (tgt := 391) hx hb dL_books_206 (by decide) (fun c206 => ?_) (fun c206 => ?_)
                          ·
                            exact absurd c206 (by decide)
                          ·
                            refine lv_iload hx hb dL_books_209 (lv_at hl 3 rfl) ?_
                            refine lv_aload_n hx hb dL_books_211 rfl (lv_at hl 18 rfl) ?_
                            refine rdV (As := []) (rest := [.int (nI ff)]) ⟨hx, hb, hml, hown, hts⟩ (c_X9_night l D T v B O g ln un nx pl f0 f1 f2 ) (cwV 0 hts (gC gl_X9_night) rfl rfl rfl (by decide +kernel) ⟨Nat.le_of_ble_eq_true rfl, Nat.le_of_ble_eq_true rfl⟩) hK (wTail (x := [(q15, .inl (T 0, 5, .inl fa)), (q11, .inl (T 0, 4, .inl fc))]) hP hD).1 0 rfl rfl rfl hl.1 rfl (Nat.le_of_ble_eq_true rfl) ⟨by show _ ≤ 2200; omega, by show _ ≤ 13200; omega⟩ dL_books_212 ?_
                            refine endI (r := nI nt) (hn) ?_
                            refine lv_icmp_gt (tgt := 391) hx hb dL_books_215 (by decide) (fun c215 => ?_) (fun c215 => ?_)
                            ·
                              have c215 : nt < ff := (nI_ltI (a := nt) (b := ff) (by omega) (by omega)).mp c215
                              exfalso; omega
                            ·
                              have c215 : ¬ nt < ff := fun h9 => c215 ((nI_ltI (a := nt) (b := ff) (by omega) (by omega)).mpr h9)
                              refine lv_iload hx hb dL_books_218 (lv_at hl 0 rfl) ?_
                              refine lv_if_le (tgt := 391) hx hb dL_books_220 (by decide) (fun c220 => ?_) (fun c220 => ?_)
                              ·
                                have c220 : aa ≤ 0 := (nI_leI (a := aa) (b := 0) (by omega) (by omega)).mp c220
                                exfalso; omega
                              ·
                                have c220 : ¬ aa ≤ 0 := fun h9 => c220 ((nI_leI (a := aa) (b := 0) (by omega) (by omega)).mpr h9)
                                refine lv_iload hx hb dL_books_223 (lv_at hl 0 rfl) ?_
                                refine lv_bipush (v := 10) hx hb dL_books_225 (by decide) ?_
                                refine lv_icmp_ge (tgt := 391) hx hb dL_books_227 (by decide) (fun c227 => ?_) (fun c227 => ?_)
                                ·
                                  have c227 : 10 ≤ aa := (nI_leI (a := 10) (b := aa) (by omega) (by omega)).mp c227
                                  exfalso; omega
                                ·
                                  have c227 : ¬ 10 ≤ aa := fun h9 => c227 ((nI_leI (a := 10) (b := aa) (by omega) (by omega)).mpr h9)
                                  refine lv_iload hx hb dL_books_230 (lv_at hl 7 rfl) ?_
                                  refine lv_iconst (v := 1) hx hb dL_books_232 (by decide) ?_
                                  refine lv_icmp_ne (tgt := 258) hx hb dL_books_233 (by decide) (fun c233 => ?_) (fun c233 => ?_)
                                  ·
                                    refine lv_iload hx hb dL_books_258 (lv_at hl 2 rfl) ?_
                                    refine lv_iload hx hb dL_books_260 (lv_at hl 3 rfl) ?_
                                    refine lv_icmp_lt (tgt := 391) hx hb dL_books_262 (by decide) (fun c262 => ?_) (fun c262 => ?_)
                                    ·
                                      have c262 : cc < ff := (nI_ltI (a := cc) (b := ff) (by omega) (by omega)).mp c262
                                      exfalso; omega
                                    ·
                                      have c262 : ¬ cc < ff := fun h9 => c262 ((nI_ltI (a := cc) (b := ff) (by omega) (by omega)).mpr h9)
                                      refine lv_iload hx hb dL_books_265 (lv_at hl 2 rfl) ?_
                                      refine lv_aload_n hx hb dL_books_267 rfl (lv_at hl 18 rfl) ?_
                                      refine rdV (As := []) (rest := [.int (nI cc)]) ⟨hx, hb, hml, hown, hts⟩ (c_X9_night l D T v B O g ln un nx pl f0 f1 f2 ) (cwV 0 hts (gC gl_X9_night) rfl rfl rfl (by decide +kernel) ⟨Nat.le_of_ble_eq_true rfl, Nat.le_of_ble_eq_true rfl⟩) hK (wTail (x := [(q15, .inl (T 0, 5, .inl fa)), (q11, .inl (T 0, 4, .inl fc))]) hP hD).1 0 rfl rfl rfl hl.1 rfl (Nat.le_of_ble_eq_true rfl) ⟨by show _ ≤ 2200; omega, by show _ ≤ 13200; omega⟩ dL_books_268 ?_
                                      refine endI (r := nI nt) (hn) ?_
                                      refine lv_icmp_gt (tgt := 391) hx hb dL_books_271 (by decide) (fun c271 => ?_) (fun c271 => ?_)
                                      ·
                                        have c271 : nt < cc := (nI_ltI (a := nt) (b := cc) (by omega) (by omega)).mp c271
                                        exfalso; omega
                                      ·
                                        have c271 : ¬ nt < cc := fun h9 => c271 ((nI_ltI (a := nt) (b := cc) (by omega) (by omega)).mpr h9)
                                        refine lv_iload hx hb dL_books_274 (lv_at hl 2 rfl) ?_
                                        refine lv_iload hx hb dL_books_276 (lv_at hl 3 rfl) ?_
                                        refine lv_isub hx hb dL_books_278 ?_
                                        refine endI (r := nI (cc - ff)) (pk_sub (a := cc) (b := ff) (by omega)) ?_
                                        refine lv_bipush (v := 56) hx hb dL_books_279 (by decide) ?_
                                        refine lv_icmp_gt (tgt := 391) hx hb dL_books_281 (by decide) (fun c281 => ?_) (fun c281 => ?_)
                                        ·
                                          have c281 : 56 < (cc - ff) := (nI_ltI (a := 56) (b := (cc - ff)) (by omega) (by omega)).mp c281
                                          exfalso; omega
                                        ·
                                          have c281 : ¬ 56 < (cc - ff) := fun h9 => c281 ((nI_ltI (a := 56) (b := (cc - ff)) (by omega) (by omega)).mpr h9)
                                          refine lv_iload hx hb dL_books_284 (lv_at hl 1 rfl) ?_
                                          refine lv_bipush (v := -101) hx hb dL_books_286 (by decide) ?_
                                          refine lv_icmp_ne (tgt := 295) hx hb dL_books_288 (by decide) (fun c288 => ?_) (fun c288 => ?_)
                                          ·
                                            refine lv_iconst (v := 0) hx hb dL_books_295 (by decide) ?_
                                            refine lv_iload hx hb dL_books_296 (lv_at hl 7 rfl) ?_
                                            refine lv_iload hx hb dL_books_298 (lv_at hl 4 rfl) ?_
                                            refine lv_iadd hx hb dL_books_300 ?_
                                            refine endI (r := 0) (by decide) ?_
                                            refine lv_iconst (v := 1) hx hb dL_books_301 (by decide) ?_
                                            refine lv_icmp_ne (tgt := 309) hx hb dL_books_302 (by decide) (fun c302 => ?_) (fun c302 => ?_)
                                            ·
                                              refine lv_iconst (v := 0) hx hb dL_books_309 (by decide) ?_
                                              refine lv_icmp_ne (tgt := 391) hx hb dL_books_310 (by decide) (fun c310 => ?_) (fun c310 => ?_)
                                              ·
                                                exact absurd c310 (by decide)
                                              ·
                                                refine lv_iload hx hb dL_books_313 (lv_at hl 5 rfl) ?_
                                                refine lv_if_eq (tgt := 328) hx hb dL_books_315 (by decide) (fun c315 => ?_) (fun c315 => ?_)
                                                ·
                                                  refine lv_aload_n hx hb dL_books_328 rfl (lv_at hl 18 rfl) ?_
                                                  refine lv_bipush (v := 33) hx hb dL_books_329 (by decide) ?_
                                                  refine lv_aload_n hx hb dL_books_331 rfl (lv_at hl 18 rfl) ?_
                                                  refine lv_bipush (v := 23) hx hb dL_books_332 (by decide) ?_
                                                  refine lv_iload hx hb dL_books_334 (lv_at hl 8 rfl) ?_
                                                  refine lqSi (As := [.ref (v 0), .int (23), .int (nI k)]) (rest := [.int (33), .ref (v 0)]) ⟨hx, hb, hml, hown, hts⟩ (c_ask_personOf l hl9 D T aK aV v B O g ln un nx pl f0 f1 f2 k N K C nt hOI (by omega) _) (va_cwS 3 hts (gC gl_L_call__) rfl rfl rfl (by decide +kernel) ⟨Nat.le_of_ble_eq_true rfl, Nat.le_of_ble_eq_true rfl⟩) (Foc.pre [(q15, .inl (T 0, 5, .inl fa)), (q11, .inl (T 0, 4, .inl fc))] _ _) hC hNC hK hP hD hS hA rfl hl.1 rfl (Nat.le_of_ble_eq_true rfl) ⟨by show _ ≤ 2200; omega, by show _ ≤ 13200; omega⟩ dL_books_336 (fun H locs hP hD hS => ?_)
                                                  have hP : va_P D vwCl ((q15, .inl (T 0, 5, .inl fa)) :: (q11, .inl (T 0, 4, .inl fc)) :: WIN T v B O g ln un nx pl f0 f1 f2) H := hP
                                                  have hD : va_D A ((q15, .inl (T 0, 5, .inl fa)) :: (q11, .inl (T 0, 4, .inl fc)) :: WIN T v B O g ln un nx pl f0 f1 f2) := hD
                                                  refine endI (r := nI pp) (e4) ?_
                                                  refine lv_aload_n hx hb dL_books_339 rfl (lv_at hl 18 rfl) ?_
                                                  refine lv_bipush (v := 24) hx hb dL_books_340 (by decide) ?_
                                                  refine lv_iload hx hb dL_books_342 (lv_at hl 8 rfl) ?_
                                                  refine lqSi (As := [.ref (v 0), .int (24), .int (nI k)]) (rest := [.int (nI pp), .int (33), .ref (v 0)]) ⟨hx, hb, hml, hown, hts⟩ (c_ask_sortOf l hl9 D T aK aV v B O g ln un nx pl f0 f1 f2 k N K C nt hOI (by omega) _) (va_cwS 3 hts (gC gl_L_call__) rfl rfl rfl (by decide +kernel) ⟨Nat.le_of_ble_eq_true rfl, Nat.le_of_ble_eq_true rfl⟩) (Foc.pre [(q15, .inl (T 0, 5, .inl fa)), (q11, .inl (T 0, 4, .inl fc))] _ _) hC hNC hK hP hD hS hA rfl hl.1 rfl (Nat.le_of_ble_eq_true rfl) ⟨by show _ ≤ 2200; omega, by show _ ≤ 13200; omega⟩ dL_books_344 (fun H locs hP hD hS => ?_)
                                                  have hP : va_P D vwCl ((q15, .inl (T 0, 5, .inl fa)) :: (q11, .inl (T 0, 4, .inl fc)) :: WIN T v B O g ln un nx pl f0 f1 f2) H := hP
                                                  have hD : va_D A ((q15, .inl (T 0, 5, .inl fa)) :: (q11, .inl (T 0, 4, .inl fc)) :: WIN T v B O g ln un nx pl f0 f1 f2) := hD
                                                  refine endI (r := nI qq) (e5) ?_
                                                  refine lqSi (As := [.ref (v 0), .int (33), .int (nI pp), .int (nI qq)]) (rest := []) ⟨hx, hb, hml, hown, hts⟩ (c_ask_waitingOf l hl9 D T aK aV v B O g ln un nx pl f0 f1 f2 (nI pp) (nI qq) N K C nt hOI (rg_99 (by omega)) (rg_3 (by omega)) _) (va_cwS 4 hts (gC gl_L_call_) rfl rfl rfl (by decide +kernel) ⟨Nat.le_of_ble_eq_true rfl, Nat.le_of_ble_eq_true rfl⟩) (Foc.pre [(q15, .inl (T 0, 5, .inl fa)), (q11, .inl (T 0, 4, .inl fc))] _ _) hC hNC hK hP hD hS hA rfl hl.1 rfl (Nat.le_of_ble_eq_true rfl) ⟨by show _ ≤ 2200; omega, by show _ ≤ 13200; omega⟩ dL_books_347 (fun H locs hP hD hS => ?_)
                                                  have hP : va_P D vwCl ((q15, .inl (T 0, 5, .inl fa)) :: (q11, .inl (T 0, 4, .inl fc)) :: WIN T v B O g ln un nx pl f0 f1 f2) H := hP
                                                  have hD : va_D A ((q15, .inl (T 0, 5, .inl fa)) :: (q11, .inl (T 0, 4, .inl fc)) :: WIN T v B O g ln un nx pl f0 f1 f2) := hD
                                                  refine lv_bipush (v := -104) hx hb dL_books_350 (by decide) ?_
                                                  refine lv_icmp_eq (tgt := 391) hx hb dL_books_352 (by decide) (fun c352 => ?_) (fun c352 => ?_)
                                                  ·
                                                    exact absurd c352 (opt_ne (fun j h => by have := (findC_lt h).1; omega) (by decide) (by decide))
                                                  ·
                                                    refine lv_iload hx hb dL_books_355 (lv_at hl 7 rfl) ?_
                                                    refine lv_if_eq (tgt := 387) hx hb dL_books_357 (by decide) (fun c357 => ?_) (fun c357 => ?_)
                                                    ·
                                                      refine lv_iconst (v := 1) hx hb dL_books_387 (by decide) ?_
                                                      refine lv_goto (tgt := 392) hx hb dL_books_388 (by decide) ?_
                                                      refine lv_istore (lv' := [(9, .int (1)), (18, .int (nI aa)), (17, .int (nI jj)), (16, .int (nI cc)), (15, .int (nI ff)), (14, .int (0)), (13, .int (0)), (12, .int (1)), (11, .int (0)), (10, .int (nI k)), (8, .int (ba.elim (-101) nI)), (7, .int (bo.elim (-101) nI)), (6, .int (wt)), (5, .int (ag)), (4, .ref (q15)), (3, .ref (q11)), (2, .int (nI K)), (1, .int (nI N)), (0, .ref (v 0))]) hx hb dL_books_392 hl (by decide) rfl (fun ls hl => ?_)
                                                      refine lv_aload_n hx hb dL_books_394 rfl (lv_at hl 15 rfl) ?_
                                                      refine lv_iload hx hb dL_books_395 (lv_at hl 7 rfl) ?_
                                                      refine lv_iconst (v := 2) hx hb dL_books_397 (by decide) ?_
                                                      refine lv_iload hx hb dL_books_398 (lv_at hl 6 rfl) ?_
                                                      refine lv_imul hx hb dL_books_400 ?_
                                                      refine endI (r := 0) (by decide) ?_
                                                      refine lv_iadd hx hb dL_books_401 ?_
                                                      refine endI (r := 1) (by decide) ?_
                                                      refine lv_iconst (v := 3) hx hb dL_books_402 (by decide) ?_
                                                      refine lv_iload hx hb dL_books_403 (lv_at hl 5 rfl) ?_
                                                      refine lv_imul hx hb dL_books_405 ?_
                                                      refine endI (r := 0) (by decide) ?_
                                                      refine lv_iadd hx hb dL_books_406 ?_
                                                      refine endI (r := 1) (by decide) ?_
                                                      refine lv_dup2_11 hx hb dL_books_407 rfl rfl ?_
                                                      refine aldI hx hb hK hP 1 0 rfl rfl (1) rfl (by omega) (by decide) dL_books_408 ?_
                                                      refine lv_iconst (v := 1) hx hb dL_books_409 (by decide) ?_
                                                      refine lv_iadd hx hb dL_books_410 ?_
                                                      refine astI hx hb hK hP hD hS 1 0 rfl rfl (1) rfl (by omega) (by decide) dL_books_411 (fun H locs hP hD hS => ?_)
                                                      have hP : va_P D vwCl ((q15, .inl (T 0, 5, .inl fa)) :: (q11, .inl (T 0, 4, .inl (va_up fc 1 ((fc 1) + 1)))) :: WIN T v B O g ln un nx pl f0 f1 f2) H := hP
                                                      have hD : va_D A ((q15, .inl (T 0, 5, .inl fa)) :: (q11, .inl (T 0, 4, .inl (va_up fc 1 ((fc 1) + 1)))) :: WIN T v B O g ln un nx pl f0 f1 f2) := hD
                                                      refine lv_iload hx hb dL_books_412 (lv_at hl 7 rfl) ?_
                                                      refine lv_iconst (v := 1) hx hb dL_books_414 (by decide) ?_
                                                      refine lv_icmp_ne (tgt := 444) hx hb dL_books_415 (by decide) (fun c415 => ?_) (fun c415 => ?_)
                                                      ·
                                                        exact absurd c415 (by decide)
                                                      ·
                                                        refine lv_aload hx hb dL_books_418 (lv_at hl 14 rfl) ?_
                                                        refine lv_iload hx hb dL_books_420 (lv_at hl 2 rfl) ?_
                                                        refine lv_dup2_11 hx hb dL_books_422 rfl rfl ?_
                                                        refine aldI hx hb hK hP 0 0 rfl rfl (jj) rfl (by omega) (by decide) dL_books_423 ?_
                                                        refine lv_iconst (v := 1) hx hb dL_books_424 (by decide) ?_
                                                        refine lv_iadd hx hb dL_books_425 ?_
                                                        refine astI hx hb hK hP hD hS 0 0 rfl rfl (jj) rfl (by omega) (by decide) dL_books_426 (fun H locs hP hD hS => ?_)
                                                        have hP : va_P D vwCl ((q15, .inl (T 0, 5, .inl (va_up fa jj ((fa jj) + 1)))) :: (q11, .inl (T 0, 4, .inl (va_up fc 1 ((fc 1) + 1)))) :: WIN T v B O g ln un nx pl f0 f1 f2) H := hP
                                                        have hD : va_D A ((q15, .inl (T 0, 5, .inl (va_up fa jj ((fa jj) + 1)))) :: (q11, .inl (T 0, 4, .inl (va_up fc 1 ((fc 1) + 1)))) :: WIN T v B O g ln un nx pl f0 f1 f2) := hD
                                                        refine lv_iload hx hb dL_books_427 (lv_at hl 13 rfl) ?_
                                                        refine lv_iload hx hb dL_books_429 (lv_at hl 1 rfl) ?_
                                                        refine lv_iadd hx hb dL_books_431 ?_
                                                        refine lv_istore (lv' := [(5, .int (ag + (nI aa))), (9, .int (1)), (18, .int (nI aa)), (17, .int (nI jj)), (16, .int (nI cc)), (15, .int (nI ff)), (14, .int (0)), (13, .int (0)), (12, .int (1)), (11, .int (0)), (10, .int (nI k)), (8, .int (ba.elim (-101) nI)), (7, .int (bo.elim (-101) nI)), (6, .int (wt)), (4, .ref (q15)), (3, .ref (q11)), (2, .int (nI K)), (1, .int (nI N)), (0, .ref (v 0))]) hx hb dL_books_432 hl (by decide) rfl (fun ls hl => ?_)
                                                        refine lv_iload hx hb dL_books_434 (lv_at hl 13 rfl) ?_
                                                        refine lv_iload hx hb dL_books_436 (lv_at hl 4 rfl) ?_
                                                        refine lv_iload hx hb dL_books_438 (lv_at hl 5 rfl) ?_
                                                        refine lv_isub hx hb dL_books_440 ?_
                                                        refine endI (r := nI (cc - ff)) (pk_sub (a := cc) (b := ff) (by omega)) ?_
                                                        refine lv_iadd hx hb dL_books_441 ?_
                                                        refine lv_istore (lv' := [(6, .int (wt + (nI (cc - ff)))), (5, .int (ag + (nI aa))), (9, .int (1)), (18, .int (nI aa)), (17, .int (nI jj)), (16, .int (nI cc)), (15, .int (nI ff)), (14, .int (0)), (13, .int (0)), (12, .int (1)), (11, .int (0)), (10, .int (nI k)), (8, .int (ba.elim (-101) nI)), (7, .int (bo.elim (-101) nI)), (4, .ref (q15)), (3, .ref (q11)), (2, .int (nI K)), (1, .int (nI N)), (0, .ref (v 0))]) hx hb dL_books_442 hl (by decide) rfl (fun ls hl => ?_)
                                                        refine lv_iload hx hb dL_books_444 (lv_at hl 10 rfl) ?_
                                                        refine lv_if_ne (tgt := 452) hx hb dL_books_446 (by decide) (fun c446 => ?_) (fun c446 => ?_)
                                                        ·
                                                          exact absurd c446 (by decide)
                                                        ·
                                                          refine lv_goto (tgt := 496) hx hb dL_books_449 (by decide) ?_
                                                          refine lv_iinc (v := nI (k + 1)) (lv' := [(10, .int (nI (k + 1))), (6, .int (wt + (nI (cc - ff)))), (5, .int (ag + (nI aa))), (9, .int (1)), (18, .int (nI aa)), (17, .int (nI jj)), (16, .int (nI cc)), (15, .int (nI ff)), (14, .int (0)), (13, .int (0)), (12, .int (1)), (11, .int (0)), (8, .int (ba.elim (-101) nI)), (7, .int (bo.elim (-101) nI)), (4, .ref (q15)), (3, .ref (q11)), (2, .int (nI K)), (1, .int (nI N)), (0, .ref (v 0))]) hx hb dL_books_496 hl (k := 11) rfl (nI_1 _) (by decide) rfl (fun ls hl => ?_)
                                                          refine lv_goto (tgt := 103) hx hb dL_books_499 (by decide) ?_
                                                          exact ih103 (k + 1) (va_up fc 1 ((fc 1) + 1)) (va_up fa jj ((fa jj) + 1)) (ag + (nI aa)) (wt + (nI (cc - ff))) bo ba _ _ (by omega) (by omega) (by first | exact cnt_upd 0 (by omega) e8 (by omega) hfc | exact cnt_upd 1 (by omega) e8 (by omega) hfc | exact cnt_upd 2 (by omega) e8 (by omega) hfc | exact cnt_upd 3 (by omega) e8 (by omega) hfc) (by first | exact ans_yes e8 e10 hjj hK2 (by omega) hfa | exact ans_no (by rw [e8]; decide) (by omega) hfa) (by first | exact sum_yes e8 e6 (by omega) hag | exact sum_no (by rw [e8]; decide) (by omega) hag) (by first | exact sum_yes e8 (by rw [e9, e7]; exact pk_sub (by omega)) (by omega) hwt | exact sum_no (by rw [e8]; decide) (by omega) hwt) (by first | exact best_no (decide_eq_false (by rw [e8]; decide)) (by omega) hbo | exact best_new (decide_eq_true e8) (by omega) hbo | exact best_beat (decide_eq_true e8) (decide_eq_true (by rw [e7]; exact Int32.not_le.mp c467)) (by omega) hbo | exact best_stay (decide_eq_true e8) (decide_eq_false (by rw [e7]; exact Int32.not_lt.mpr c467)) (by omega) hbo) (by first | exact best_no (decide_eq_false (by rw [e8]; decide)) (by omega) hba | exact best_new (decide_eq_true e8) (by omega) hba | exact best_beat (decide_eq_true e8) (decide_eq_true (by rw [e6]; exact Int32.not_le.mp c489)) (by omega) hba | exact best_stay (decide_eq_true e8) (decide_eq_false (by rw [e6]; exact Int32.not_lt.mpr c489)) (by omega) hba) (by intro j h; first | (cases h; omega) | exact hbo2 j h) (by intro j h; first | (cases h; omega) | exact hba2 j h) (by omega) (by omega) _ _ _ hP hD hS (lv_sub hl [0, 3, 12, 13, 1, 2, 14, 15, 16, 17, 18] rfl)
                                                    ·
                                                      exact absurd c357 (by decide)
                                                ·
                                                  exact absurd c315 (by decide)
                                            ·
                                              exact absurd c302 (by decide)
                                          ·
                                            exact absurd c288 (nI_nneg (by omega) (by decide))
                                  ·
                                    exact absurd c233 (by decide)
                        ·
                          refine lv_aload_n hx hb dL_books_114 rfl (lv_at hl 10 rfl) ?_
                          refine lv_bipush (v := 27) hx hb dL_books_115 (by decide) ?_
                          refine lv_iload hx hb dL_books_117 (lv_at hl 0 rfl) ?_
                          refine lqSi (As := [.ref (v 0), .int (27), .int (nI k)]) (rest := []) ⟨hx, hb, hml, hown, hts⟩ (c_ask_isWaiting l hl9 D T aK aV v B O g ln un nx pl f0 f1 f2 k N K C nt hOI (by omega) _) (va_cwS 3 hts (gC gl_L_call__) rfl rfl rfl (by decide +kernel) ⟨Nat.le_of_ble_eq_true rfl, Nat.le_of_ble_eq_true rfl⟩) (Foc.pre [(q15, .inl (T 0, 5, .inl fa)), (q11, .inl (T 0, 4, .inl fc))] _ _) hC hNC hK hP hD hS hA rfl hl.1 rfl (Nat.le_of_ble_eq_true rfl) ⟨by show _ ≤ 2200; omega, by show _ ≤ 13200; omega⟩ dL_books_119 (fun H locs hP hD hS => ?_)
                          have hP : va_P D vwCl ((q15, .inl (T 0, 5, .inl fa)) :: (q11, .inl (T 0, 4, .inl fc)) :: WIN T v B O g ln un nx pl f0 f1 f2) H := hP
                          have hD : va_D A ((q15, .inl (T 0, 5, .inl fa)) :: (q11, .inl (T 0, 4, .inl fc)) :: WIN T v B O g ln un nx pl f0 f1 f2) := hD
                          refine endI (r := 0) (by rw [e8]; decide) ?_
                          refine lv_istore (lv' := [(11, .int (0)), (10, .int (nI k)), (9, .int (1)), (8, .int (ba.elim (-101) nI)), (7, .int (bo.elim (-101) nI)), (6, .int (wt)), (5, .int (ag)), (4, .ref (q15)), (3, .ref (q11)), (2, .int (nI K)), (1, .int (nI N)), (0, .ref (v 0))]) hx hb dL_books_122 hl (by decide) rfl (fun ls hl => ?_)
                          refine lv_aload_n hx hb dL_books_124 rfl (lv_at hl 11 rfl) ?_
                          refine lv_bipush (v := 28) hx hb dL_books_125 (by decide) ?_
                          refine lv_iload hx hb dL_books_127 (lv_at hl 1 rfl) ?_
                          refine lqSi (As := [.ref (v 0), .int (28), .int (nI k)]) (rest := []) ⟨hx, hb, hml, hown, hts⟩ (c_ask_isAnswered l hl9 D T aK aV v B O g ln un nx pl f0 f1 f2 k N K C nt hOI (by omega) _) (va_cwS 3 hts (gC gl_L_call__) rfl rfl rfl (by decide +kernel) ⟨Nat.le_of_ble_eq_true rfl, Nat.le_of_ble_eq_true rfl⟩) (Foc.pre [(q15, .inl (T 0, 5, .inl fa)), (q11, .inl (T 0, 4, .inl fc))] _ _) hC hNC hK hP hD hS hA rfl hl.1 rfl (Nat.le_of_ble_eq_true rfl) ⟨by show _ ≤ 2200; omega, by show _ ≤ 13200; omega⟩ dL_books_129 (fun H locs hP hD hS => ?_)
                          have hP : va_P D vwCl ((q15, .inl (T 0, 5, .inl fa)) :: (q11, .inl (T 0, 4, .inl fc)) :: WIN T v B O g ln un nx pl f0 f1 f2) H := hP
                          have hD : va_D A ((q15, .inl (T 0, 5, .inl fa)) :: (q11, .inl (T 0, 4, .inl fc)) :: WIN T v B O g ln un nx pl f0 f1 f2) := hD
                          refine endI (r := 0) (by rw [e8]; decide) ?_
                          refine lv_istore (lv' := [(12, .int (0)), (11, .int (0)), (10, .int (nI k)), (9, .int (1)), (8, .int (ba.elim (-101) nI)), (7, .int (bo.elim (-101) nI)), (6, .int (wt)), (5, .int (ag)), (4, .ref (q15)), (3, .ref (q11)), (2, .int (nI K)), (1, .int (nI N)), (0, .ref (v 0))]) hx hb dL_books_132 hl (by decide) rfl (fun ls hl => ?_)
                          refine lv_aload_n hx hb dL_books_134 rfl (lv_at hl 12 rfl) ?_
                          refine lv_bipush (v := 29) hx hb dL_books_135 (by decide) ?_
                          refine lv_iload hx hb dL_books_137 (lv_at hl 2 rfl) ?_
                          refine lqSi (As := [.ref (v 0), .int (29), .int (nI k)]) (rest := []) ⟨hx, hb, hml, hown, hts⟩ (c_ask_isDismissed l hl9 D T aK aV v B O g ln un nx pl f0 f1 f2 k N K C nt hOI (by omega) _) (va_cwS 3 hts (gC gl_L_call__) rfl rfl rfl (by decide +kernel) ⟨Nat.le_of_ble_eq_true rfl, Nat.le_of_ble_eq_true rfl⟩) (Foc.pre [(q15, .inl (T 0, 5, .inl fa)), (q11, .inl (T 0, 4, .inl fc))] _ _) hC hNC hK hP hD hS hA rfl hl.1 rfl (Nat.le_of_ble_eq_true rfl) ⟨by show _ ≤ 2200; omega, by show _ ≤ 13200; omega⟩ dL_books_139 (fun H locs hP hD hS => ?_)
                          have hP : va_P D vwCl ((q15, .inl (T 0, 5, .inl fa)) :: (q11, .inl (T 0, 4, .inl fc)) :: WIN T v B O g ln un nx pl f0 f1 f2) H := hP
                          have hD : va_D A ((q15, .inl (T 0, 5, .inl fa)) :: (q11, .inl (T 0, 4, .inl fc)) :: WIN T v B O g ln un nx pl f0 f1 f2) := hD
                          refine endI (r := 1) (by rw [e8]; decide) ?_
                          refine lv_istore (lv' := [(13, .int (1)), (12, .int (0)), (11, .int (0)), (10, .int (nI k)), (9, .int (1)), (8, .int (ba.elim (-101) nI)), (7, .int (bo.elim (-101) nI)), (6, .int (wt)), (5, .int (ag)), (4, .ref (q15)), (3, .ref (q11)), (2, .int (nI K)), (1, .int (nI N)), (0, .ref (v 0))]) hx hb dL_books_142 hl (by decide) rfl (fun ls hl => ?_)
                          refine lv_aload_n hx hb dL_books_144 rfl (lv_at hl 13 rfl) ?_
                          refine lv_bipush (v := 30) hx hb dL_books_145 (by decide) ?_
                          refine lv_iload hx hb dL_books_147 (lv_at hl 3 rfl) ?_
                          refine lqSi (As := [.ref (v 0), .int (30), .int (nI k)]) (rest := []) ⟨hx, hb, hml, hown, hts⟩ (c_ask_isGivenUp l hl9 D T aK aV v B O g ln un nx pl f0 f1 f2 k N K C nt hOI (by omega) _) (va_cwS 3 hts (gC gl_L_call__) rfl rfl rfl (by decide +kernel) ⟨Nat.le_of_ble_eq_true rfl, Nat.le_of_ble_eq_true rfl⟩) (Foc.pre [(q15, .inl (T 0, 5, .inl fa)), (q11, .inl (T 0, 4, .inl fc))] _ _) hC hNC hK hP hD hS hA rfl hl.1 rfl (Nat.le_of_ble_eq_true rfl) ⟨by show _ ≤ 2200; omega, by show _ ≤ 13200; omega⟩ dL_books_149 (fun H locs hP hD hS => ?_)
                          have hP : va_P D vwCl ((q15, .inl (T 0, 5, .inl fa)) :: (q11, .inl (T 0, 4, .inl fc)) :: WIN T v B O g ln un nx pl f0 f1 f2) H := hP
                          have hD : va_D A ((q15, .inl (T 0, 5, .inl fa)) :: (q11, .inl (T 0, 4, .inl fc)) :: WIN T v B O g ln un nx pl f0 f1 f2) := hD
                          refine endI (r := 0) (by rw [e8]; decide) ?_
                          refine lv_istore (lv' := [(14, .int (0)), (13, .int (1)), (12, .int (0)), (11, .int (0)), (10, .int (nI k)), (9, .int (1)), (8, .int (ba.elim (-101) nI)), (7, .int (bo.elim (-101) nI)), (6, .int (wt)), (5, .int (ag)), (4, .ref (q15)), (3, .ref (q11)), (2, .int (nI K)), (1, .int (nI N)), (0, .ref (v 0))]) hx hb dL_books_152 hl (by decide) rfl (fun ls hl => ?_)
                          refine lv_aload_n hx hb dL_books_154 rfl (lv_at hl 14 rfl) ?_
                          refine lv_bipush (v := 26) hx hb dL_books_155 (by decide) ?_
                          refine lv_iload hx hb dL_books_157 (lv_at hl 4 rfl) ?_
                          refine lqSi (As := [.ref (v 0), .int (26), .int (nI k)]) (rest := []) ⟨hx, hb, hml, hown, hts⟩ (c_ask_filedIn l hl9 D T aK aV v B O g ln un nx pl f0 f1 f2 k N K C nt hOI (by omega) _) (va_cwS 3 hts (gC gl_L_call__) rfl rfl rfl (by decide +kernel) ⟨Nat.le_of_ble_eq_true rfl, Nat.le_of_ble_eq_true rfl⟩) (Foc.pre [(q15, .inl (T 0, 5, .inl fa)), (q11, .inl (T 0, 4, .inl fc))] _ _) hC hNC hK hP hD hS hA rfl hl.1 rfl (Nat.le_of_ble_eq_true rfl) ⟨by show _ ≤ 2200; omega, by show _ ≤ 13200; omega⟩ dL_books_159 (fun H locs hP hD hS => ?_)
                          have hP : va_P D vwCl ((q15, .inl (T 0, 5, .inl fa)) :: (q11, .inl (T 0, 4, .inl fc)) :: WIN T v B O g ln un nx pl f0 f1 f2) H := hP
                          have hD : va_D A ((q15, .inl (T 0, 5, .inl fa)) :: (q11, .inl (T 0, 4, .inl fc)) :: WIN T v B O g ln un nx pl f0 f1 f2) := hD
                          refine endI (r := nI ff) (e7) ?_
                          refine lv_istore (lv' := [(15, .int (nI ff)), (14, .int (0)), (13, .int (1)), (12, .int (0)), (11, .int (0)), (10, .int (nI k)), (9, .int (1)), (8, .int (ba.elim (-101) nI)), (7, .int (bo.elim (-101) nI)), (6, .int (wt)), (5, .int (ag)), (4, .ref (q15)), (3, .ref (q11)), (2, .int (nI K)), (1, .int (nI N)), (0, .ref (v 0))]) hx hb dL_books_162 hl (by decide) rfl (fun ls hl => ?_)
                          refine lv_aload_n hx hb dL_books_164 rfl (lv_at hl 15 rfl) ?_
                          refine lv_bipush (v := 31) hx hb dL_books_165 (by decide) ?_
                          refine lv_iload hx hb dL_books_167 (lv_at hl 5 rfl) ?_
                          refine lqSi (As := [.ref (v 0), .int (31), .int (nI k)]) (rest := []) ⟨hx, hb, hml, hown, hts⟩ (c_ask_closedIn l hl9 D T aK aV v B O g ln un nx pl f0 f1 f2 k N K C nt hOI (by omega) _) (va_cwS 3 hts (gC gl_L_call__) rfl rfl rfl (by decide +kernel) ⟨Nat.le_of_ble_eq_true rfl, Nat.le_of_ble_eq_true rfl⟩) (Foc.pre [(q15, .inl (T 0, 5, .inl fa)), (q11, .inl (T 0, 4, .inl fc))] _ _) hC hNC hK hP hD hS hA rfl hl.1 rfl (Nat.le_of_ble_eq_true rfl) ⟨by show _ ≤ 2200; omega, by show _ ≤ 13200; omega⟩ dL_books_169 (fun H locs hP hD hS => ?_)
                          have hP : va_P D vwCl ((q15, .inl (T 0, 5, .inl fa)) :: (q11, .inl (T 0, 4, .inl fc)) :: WIN T v B O g ln un nx pl f0 f1 f2) H := hP
                          have hD : va_D A ((q15, .inl (T 0, 5, .inl fa)) :: (q11, .inl (T 0, 4, .inl fc)) :: WIN T v B O g ln un nx pl f0 f1 f2) := hD
                          refine endI (r := nI cc) (by rw [if_neg (by rw [e8]; decide)]; exact e9) ?_
                          refine lv_istore (lv' := [(16, .int (nI cc)), (15, .int (nI ff)), (14, .int (0)), (13, .int (1)), (12, .int (0)), (11, .int (0)), (10, .int (nI k)), (9, .int (1)), (8, .int (ba.elim (-101) nI)), (7, .int (bo.elim (-101) nI)), (6, .int (wt)), (5, .int (ag)), (4, .ref (q15)), (3, .ref (q11)), (2, .int (nI K)), (1, .int (nI N)), (0, .ref (v 0))]) hx hb dL_books_172 hl (by decide) rfl (fun ls hl => ?_)
                          refine lv_aload_n hx hb dL_books_174 rfl (lv_at hl 16 rfl) ?_
                          refine lv_bipush (v := 32) hx hb dL_books_175 (by decide) ?_
                          refine lv_iload hx hb dL_books_177 (lv_at hl 6 rfl) ?_
                          refine lqSi (As := [.ref (v 0), .int (32), .int (nI k)]) (rest := []) ⟨hx, hb, hml, hown, hts⟩ (c_ask_clerkOf l hl9 D T aK aV v B O g ln un nx pl f0 f1 f2 k N K C nt hOI (by omega) _) (va_cwS 3 hts (gC gl_L_call__) rfl rfl rfl (by decide +kernel) ⟨Nat.le_of_ble_eq_true rfl, Nat.le_of_ble_eq_true rfl⟩) (Foc.pre [(q15, .inl (T 0, 5, .inl fa)), (q11, .inl (T 0, 4, .inl fc))] _ _) hC hNC hK hP hD hS hA rfl hl.1 rfl (Nat.le_of_ble_eq_true rfl) ⟨by show _ ≤ 2200; omega, by show _ ≤ 13200; omega⟩ dL_books_179 (fun H locs hP hD hS => ?_)
                          have hP : va_P D vwCl ((q15, .inl (T 0, 5, .inl fa)) :: (q11, .inl (T 0, 4, .inl fc)) :: WIN T v B O g ln un nx pl f0 f1 f2) H := hP
                          have hD : va_D A ((q15, .inl (T 0, 5, .inl fa)) :: (q11, .inl (T 0, 4, .inl fc)) :: WIN T v B O g ln un nx pl f0 f1 f2) := hD
                          refine endI (r := nI jj) (by rw [if_neg (by rw [e10]; exact nI_nneg (by omega) (by decide))]; exact e10) ?_
                          refine lv_istore (lv' := [(17, .int (nI jj)), (16, .int (nI cc)), (15, .int (nI ff)), (14, .int (0)), (13, .int (1)), (12, .int (0)), (11, .int (0)), (10, .int (nI k)), (9, .int (1)), (8, .int (ba.elim (-101) nI)), (7, .int (bo.elim (-101) nI)), (6, .int (wt)), (5, .int (ag)), (4, .ref (q15)), (3, .ref (q11)), (2, .int (nI K)), (1, .int (nI N)), (0, .ref (v 0))]) hx hb dL_books_182 hl (by decide) rfl (fun ls hl => ?_)
                          refine lv_aload_n hx hb dL_books_184 rfl (lv_at hl 17 rfl) ?_
                          refine lv_bipush (v := 25) hx hb dL_books_185 (by decide) ?_
                          refine lv_iload hx hb dL_books_187 (lv_at hl 7 rfl) ?_
                          refine lqSi (As := [.ref (v 0), .int (25), .int (nI k)]) (rest := []) ⟨hx, hb, hml, hown, hts⟩ (c_ask_angerOf l hl9 D T aK aV v B O g ln un nx pl f0 f1 f2 k N K C nt hOI (by omega) _) (va_cwS 3 hts (gC gl_L_call__) rfl rfl rfl (by decide +kernel) ⟨Nat.le_of_ble_eq_true rfl, Nat.le_of_ble_eq_true rfl⟩) (Foc.pre [(q15, .inl (T 0, 5, .inl fa)), (q11, .inl (T 0, 4, .inl fc))] _ _) hC hNC hK hP hD hS hA rfl hl.1 rfl (Nat.le_of_ble_eq_true rfl) ⟨by show _ ≤ 2200; omega, by show _ ≤ 13200; omega⟩ dL_books_189 (fun H locs hP hD hS => ?_)
                          have hP : va_P D vwCl ((q15, .inl (T 0, 5, .inl fa)) :: (q11, .inl (T 0, 4, .inl fc)) :: WIN T v B O g ln un nx pl f0 f1 f2) H := hP
                          have hD : va_D A ((q15, .inl (T 0, 5, .inl fa)) :: (q11, .inl (T 0, 4, .inl fc)) :: WIN T v B O g ln un nx pl f0 f1 f2) := hD
                          refine endI (r := nI aa) (e6) ?_
                          refine lv_istore (lv' := [(18, .int (nI aa)), (17, .int (nI jj)), (16, .int (nI cc)), (15, .int (nI ff)), (14, .int (0)), (13, .int (1)), (12, .int (0)), (11, .int (0)), (10, .int (nI k)), (9, .int (1)), (8, .int (ba.elim (-101) nI)), (7, .int (bo.elim (-101) nI)), (6, .int (wt)), (5, .int (ag)), (4, .ref (q15)), (3, .ref (q11)), (2, .int (nI K)), (1, .int (nI N)), (0, .ref (v 0))]) hx hb dL_books_192 hl (by decide) rfl (fun ls hl => ?_)
                          refine lv_iload hx hb dL_books_194 (lv_at hl 7 rfl) ?_
                          refine lv_iload hx hb dL_books_196 (lv_at hl 6 rfl) ?_
                          refine lv_iadd hx hb dL_books_198 ?_
                          refine endI (r := 0) (by decide) ?_
                          refine lv_iload hx hb dL_books_199 (lv_at hl 5 rfl) ?_
                          refine lv_iadd hx hb dL_books_201 ?_
                          refine endI (r := 1) (by decide) ?_
                          refine lv_iload hx hb dL_books_202 (lv_at hl 4 rfl) ?_
                          refine lv_iadd hx hb dL_books_204 ?_
                          refine endI (r := 1) (by decide) ?_
                          refine lv_iconst (v := 1) hx hb dL_books_205 (by decide) ?_
                          refine lv_icmp_ne (tgt := 391) hx hb dL_books_206 (by decide) (fun c206 => ?_) (fun c206 => ?_)
                          ·
                            exact absurd c206 (by decide)
                          ·
                            refine lv_iload hx hb dL_books_209 (lv_at hl 3 rfl) ?_
                            refine lv_aload_n hx hb dL_books_211 rfl (lv_at hl 18 rfl) ?_
                            refine rdV (As := []) (rest := [.int (nI ff)]) ⟨hx, hb, hml, hown, hts⟩ (c_X9_night l D T v B O g ln un nx pl f0 f1 f2 ) (cwV 0 hts (gC gl_X9_night) rfl rfl rfl (by decide +kernel) ⟨Nat.le_of_ble_eq_true rfl, Nat.le_of_ble_eq_true rfl⟩) hK (wTail (x := [(q15, .inl (T 0, 5, .inl fa)), (q11, .inl (T 0, 4, .inl fc))]) hP hD).1 0 rfl rfl rfl hl.1 rfl (Nat.le_of_ble_eq_true rfl) ⟨by show _ ≤ 2200; omega, by show _ ≤ 13200; omega⟩ dL_books_212 ?_
                            refine endI (r := nI nt) (hn) ?_
                            refine lv_icmp_gt (tgt := 391) hx hb dL_books_215 (by decide) (fun c215 => ?_) (fun c215 => ?_)
                            ·
                              have c215 : nt < ff := (nI_ltI (a := nt) (b := ff) (by omega) (by omega)).mp c215
                              exfalso; omega
                            ·
                              have c215 : ¬ nt < ff := fun h9 => c215 ((nI_ltI (a := nt) (b := ff) (by omega) (by omega)).mpr h9)
                              refine lv_iload hx hb dL_books_218 (lv_at hl 0 rfl) ?_
                              refine lv_if_le (tgt := 391) hx hb dL_books_220 (by decide) (fun c220 => ?_) (fun c220 => ?_)
                              ·
                                have c220 : aa ≤ 0 := (nI_leI (a := aa) (b := 0) (by omega) (by omega)).mp c220
                                exfalso; omega
                              ·
                                have c220 : ¬ aa ≤ 0 := fun h9 => c220 ((nI_leI (a := aa) (b := 0) (by omega) (by omega)).mpr h9)
                                refine lv_iload hx hb dL_books_223 (lv_at hl 0 rfl) ?_
                                refine lv_bipush (v := 10) hx hb dL_books_225 (by decide) ?_
                                refine lv_icmp_ge (tgt := 391) hx hb dL_books_227 (by decide) (fun c227 => ?_) (fun c227 => ?_)
                                ·
                                  have c227 : 10 ≤ aa := (nI_leI (a := 10) (b := aa) (by omega) (by omega)).mp c227
                                  exfalso; omega
                                ·
                                  have c227 : ¬ 10 ≤ aa := fun h9 => c227 ((nI_leI (a := 10) (b := aa) (by omega) (by omega)).mpr h9)
                                  refine lv_iload hx hb dL_books_230 (lv_at hl 7 rfl) ?_
                                  refine lv_iconst (v := 1) hx hb dL_books_232 (by decide) ?_
                                  refine lv_icmp_ne (tgt := 258) hx hb dL_books_233 (by decide) (fun c233 => ?_) (fun c233 => ?_)
                                  ·
                                    refine lv_iload hx hb dL_books_258 (lv_at hl 2 rfl) ?_
                                    refine lv_iload hx hb dL_books_260 (lv_at hl 3 rfl) ?_
                                    refine lv_icmp_lt (tgt := 391) hx hb dL_books_262 (by decide) (fun c262 => ?_) (fun c262 => ?_)
                                    ·
                                      have c262 : cc < ff := (nI_ltI (a := cc) (b := ff) (by omega) (by omega)).mp c262
                                      exfalso; omega
                                    ·
                                      have c262 : ¬ cc < ff := fun h9 => c262 ((nI_ltI (a := cc) (b := ff) (by omega) (by omega)).mpr h9)
                                      refine lv_iload hx hb dL_books_265 (lv_at hl 2 rfl) ?_
                                      refine lv_aload_n hx hb dL_books_267 rfl (lv_at hl 18 rfl) ?_
                                      refine rdV (As := []) (rest := [.int (nI cc)]) ⟨hx, hb, hml, hown, hts⟩ (c_X9_night l D T v B O g ln un nx pl f0 f1 f2 ) (cwV 0 hts (gC gl_X9_night) rfl rfl rfl (by decide +kernel) ⟨Nat.le_of_ble_eq_true rfl, Nat.le_of_ble_eq_true rfl⟩) hK (wTail (x := [(q15, .inl (T 0, 5, .inl fa)), (q11, .inl (T 0, 4, .inl fc))]) hP hD).1 0 rfl rfl rfl hl.1 rfl (Nat.le_of_ble_eq_true rfl) ⟨by show _ ≤ 2200; omega, by show _ ≤ 13200; omega⟩ dL_books_268 ?_
                                      refine endI (r := nI nt) (hn) ?_
                                      refine lv_icmp_gt (tgt := 391) hx hb dL_books_271 (by decide) (fun c271 => ?_) (fun c271 => ?_)
                                      ·
                                        have c271 : nt < cc := (nI_ltI (a := nt) (b := cc) (by omega) (by omega)).mp c271
                                        exfalso; omega
                                      ·
                                        have c271 : ¬ nt < cc := fun h9 => c271 ((nI_ltI (a := nt) (b := cc) (by omega) (by omega)).mpr h9)
                                        refine lv_iload hx hb dL_books_274 (lv_at hl 2 rfl) ?_
                                        refine lv_iload hx hb dL_books_276 (lv_at hl 3 rfl) ?_
                                        refine lv_isub hx hb dL_books_278 ?_
                                        refine endI (r := nI (cc - ff)) (pk_sub (a := cc) (b := ff) (by omega)) ?_
                                        refine lv_bipush (v := 56) hx hb dL_books_279 (by decide) ?_
                                        refine lv_icmp_gt (tgt := 391) hx hb dL_books_281 (by decide) (fun c281 => ?_) (fun c281 => ?_)
                                        ·
                                          have c281 : 56 < (cc - ff) := (nI_ltI (a := 56) (b := (cc - ff)) (by omega) (by omega)).mp c281
                                          exfalso; omega
                                        ·
                                          have c281 : ¬ 56 < (cc - ff) := fun h9 => c281 ((nI_ltI (a := 56) (b := (cc - ff)) (by omega) (by omega)).mpr h9)
                                          refine lv_iload hx hb dL_books_284 (lv_at hl 1 rfl) ?_
                                          refine lv_bipush (v := -101) hx hb dL_books_286 (by decide) ?_
                                          refine lv_icmp_ne (tgt := 295) hx hb dL_books_288 (by decide) (fun c288 => ?_) (fun c288 => ?_)
                                          ·
                                            refine lv_iconst (v := 0) hx hb dL_books_295 (by decide) ?_
                                            refine lv_iload hx hb dL_books_296 (lv_at hl 7 rfl) ?_
                                            refine lv_iload hx hb dL_books_298 (lv_at hl 4 rfl) ?_
                                            refine lv_iadd hx hb dL_books_300 ?_
                                            refine endI (r := 0) (by decide) ?_
                                            refine lv_iconst (v := 1) hx hb dL_books_301 (by decide) ?_
                                            refine lv_icmp_ne (tgt := 309) hx hb dL_books_302 (by decide) (fun c302 => ?_) (fun c302 => ?_)
                                            ·
                                              refine lv_iconst (v := 0) hx hb dL_books_309 (by decide) ?_
                                              refine lv_icmp_ne (tgt := 391) hx hb dL_books_310 (by decide) (fun c310 => ?_) (fun c310 => ?_)
                                              ·
                                                exact absurd c310 (by decide)
                                              ·
                                                refine lv_iload hx hb dL_books_313 (lv_at hl 5 rfl) ?_
                                                refine lv_if_eq (tgt := 328) hx hb dL_books_315 (by decide) (fun c315 => ?_) (fun c315 => ?_)
                                                ·
                                                  exact absurd c315 (by decide)
                                                ·
                                                  refine lv_iload hx hb dL_books_318 (lv_at hl 2 rfl) ?_
                                                  refine lv_iload hx hb dL_books_320 (lv_at hl 3 rfl) ?_
                                                  refine lv_isub hx hb dL_books_322 ?_
                                                  refine endI (r := nI (cc - ff)) (pk_sub (a := cc) (b := ff) (by omega)) ?_
                                                  refine lv_bipush (v := 14) hx hb dL_books_323 (by decide) ?_
                                                  refine lv_icmp_lt (tgt := 391) hx hb dL_books_325 (by decide) (fun c325 => ?_) (fun c325 => ?_)
                                                  ·
                                                    have c325 : (cc - ff) < 14 := (nI_ltI (a := (cc - ff)) (b := 14) (by omega) (by omega)).mp c325
                                                    exfalso; omega
                                                  ·
                                                    have c325 : ¬ (cc - ff) < 14 := fun h9 => c325 ((nI_ltI (a := (cc - ff)) (b := 14) (by omega) (by omega)).mpr h9)
                                                    refine lv_aload_n hx hb dL_books_328 rfl (lv_at hl 18 rfl) ?_
                                                    refine lv_bipush (v := 33) hx hb dL_books_329 (by decide) ?_
                                                    refine lv_aload_n hx hb dL_books_331 rfl (lv_at hl 18 rfl) ?_
                                                    refine lv_bipush (v := 23) hx hb dL_books_332 (by decide) ?_
                                                    refine lv_iload hx hb dL_books_334 (lv_at hl 8 rfl) ?_
                                                    refine lqSi (As := [.ref (v 0), .int (23), .int (nI k)]) (rest := [.int (33), .ref (v 0)]) ⟨hx, hb, hml, hown, hts⟩ (c_ask_personOf l hl9 D T aK aV v B O g ln un nx pl f0 f1 f2 k N K C nt hOI (by omega) _) (va_cwS 3 hts (gC gl_L_call__) rfl rfl rfl (by decide +kernel) ⟨Nat.le_of_ble_eq_true rfl, Nat.le_of_ble_eq_true rfl⟩) (Foc.pre [(q15, .inl (T 0, 5, .inl fa)), (q11, .inl (T 0, 4, .inl fc))] _ _) hC hNC hK hP hD hS hA rfl hl.1 rfl (Nat.le_of_ble_eq_true rfl) ⟨by show _ ≤ 2200; omega, by show _ ≤ 13200; omega⟩ dL_books_336 (fun H locs hP hD hS => ?_)
                                                    have hP : va_P D vwCl ((q15, .inl (T 0, 5, .inl fa)) :: (q11, .inl (T 0, 4, .inl fc)) :: WIN T v B O g ln un nx pl f0 f1 f2) H := hP
                                                    have hD : va_D A ((q15, .inl (T 0, 5, .inl fa)) :: (q11, .inl (T 0, 4, .inl fc)) :: WIN T v B O g ln un nx pl f0 f1 f2) := hD
                                                    refine endI (r := nI pp) (e4) ?_
                                                    refine lv_aload_n hx hb dL_books_339 rfl (lv_at hl 18 rfl) ?_
                                                    refine lv_bipush (v := 24) hx hb dL_books_340 (by decide) ?_
                                                    refine lv_iload hx hb dL_books_342 (lv_at hl 8 rfl) ?_
                                                    refine lqSi (As := [.ref (v 0), .int (24), .int (nI k)]) (rest := [.int (nI pp), .int (33), .ref (v 0)]) ⟨hx, hb, hml, hown, hts⟩ (c_ask_sortOf l hl9 D T aK aV v B O g ln un nx pl f0 f1 f2 k N K C nt hOI (by omega) _) (va_cwS 3 hts (gC gl_L_call__) rfl rfl rfl (by decide +kernel) ⟨Nat.le_of_ble_eq_true rfl, Nat.le_of_ble_eq_true rfl⟩) (Foc.pre [(q15, .inl (T 0, 5, .inl fa)), (q11, .inl (T 0, 4, .inl fc))] _ _) hC hNC hK hP hD hS hA rfl hl.1 rfl (Nat.le_of_ble_eq_true rfl) ⟨by show _ ≤ 2200; omega, by show _ ≤ 13200; omega⟩ dL_books_344 (fun H locs hP hD hS => ?_)
                                                    have hP : va_P D vwCl ((q15, .inl (T 0, 5, .inl fa)) :: (q11, .inl (T 0, 4, .inl fc)) :: WIN T v B O g ln un nx pl f0 f1 f2) H := hP
                                                    have hD : va_D A ((q15, .inl (T 0, 5, .inl fa)) :: (q11, .inl (T 0, 4, .inl fc)) :: WIN T v B O g ln un nx pl f0 f1 f2) := hD
                                                    refine endI (r := nI qq) (e5) ?_
                                                    refine lqSi (As := [.ref (v 0), .int (33), .int (nI pp), .int (nI qq)]) (rest := []) ⟨hx, hb, hml, hown, hts⟩ (c_ask_waitingOf l hl9 D T aK aV v B O g ln un nx pl f0 f1 f2 (nI pp) (nI qq) N K C nt hOI (rg_99 (by omega)) (rg_3 (by omega)) _) (va_cwS 4 hts (gC gl_L_call_) rfl rfl rfl (by decide +kernel) ⟨Nat.le_of_ble_eq_true rfl, Nat.le_of_ble_eq_true rfl⟩) (Foc.pre [(q15, .inl (T 0, 5, .inl fa)), (q11, .inl (T 0, 4, .inl fc))] _ _) hC hNC hK hP hD hS hA rfl hl.1 rfl (Nat.le_of_ble_eq_true rfl) ⟨by show _ ≤ 2200; omega, by show _ ≤ 13200; omega⟩ dL_books_347 (fun H locs hP hD hS => ?_)
                                                    have hP : va_P D vwCl ((q15, .inl (T 0, 5, .inl fa)) :: (q11, .inl (T 0, 4, .inl fc)) :: WIN T v B O g ln un nx pl f0 f1 f2) H := hP
                                                    have hD : va_D A ((q15, .inl (T 0, 5, .inl fa)) :: (q11, .inl (T 0, 4, .inl fc)) :: WIN T v B O g ln un nx pl f0 f1 f2) := hD
                                                    refine lv_bipush (v := -104) hx hb dL_books_350 (by decide) ?_
                                                    refine lv_icmp_eq (tgt := 391) hx hb dL_books_352 (by decide) (fun c352 => ?_) (fun c352 => ?_)
                                                    ·
                                                      exact absurd c352 (opt_ne (fun j h => by have := (findC_lt h).1; omega) (by decide) (by decide))
                                                    ·
                                                      refine lv_iload hx hb dL_books_355 (lv_at hl 7 rfl) ?_
                                                      refine lv_if_eq (tgt := 387) hx hb dL_books_357 (by decide) (fun c357 => ?_) (fun c357 => ?_)
                                                      ·
                                                        refine lv_iconst (v := 1) hx hb dL_books_387 (by decide) ?_
                                                        refine lv_goto (tgt := 392) hx hb dL_books_388 (by decide) ?_
                                                        refine lv_istore (lv' := [(9, .int (1)), (18, .int (nI aa)), (17, .int (nI jj)), (16, .int (nI cc)), (15, .int (nI ff)), (14, .int (0)), (13, .int (1)), (12, .int (0)), (11, .int (0)), (10, .int (nI k)), (8, .int (ba.elim (-101) nI)), (7, .int (bo.elim (-101) nI)), (6, .int (wt)), (5, .int (ag)), (4, .ref (q15)), (3, .ref (q11)), (2, .int (nI K)), (1, .int (nI N)), (0, .ref (v 0))]) hx hb dL_books_392 hl (by decide) rfl (fun ls hl => ?_)
                                                        refine lv_aload_n hx hb dL_books_394 rfl (lv_at hl 15 rfl) ?_
                                                        refine lv_iload hx hb dL_books_395 (lv_at hl 7 rfl) ?_
                                                        refine lv_iconst (v := 2) hx hb dL_books_397 (by decide) ?_
                                                        refine lv_iload hx hb dL_books_398 (lv_at hl 6 rfl) ?_
                                                        refine lv_imul hx hb dL_books_400 ?_
                                                        refine endI (r := 2) (by decide) ?_
                                                        refine lv_iadd hx hb dL_books_401 ?_
                                                        refine endI (r := 2) (by decide) ?_
                                                        refine lv_iconst (v := 3) hx hb dL_books_402 (by decide) ?_
                                                        refine lv_iload hx hb dL_books_403 (lv_at hl 5 rfl) ?_
                                                        refine lv_imul hx hb dL_books_405 ?_
                                                        refine endI (r := 0) (by decide) ?_
                                                        refine lv_iadd hx hb dL_books_406 ?_
                                                        refine endI (r := 2) (by decide) ?_
                                                        refine lv_dup2_11 hx hb dL_books_407 rfl rfl ?_
                                                        refine aldI hx hb hK hP 1 0 rfl rfl (2) rfl (by omega) (by decide) dL_books_408 ?_
                                                        refine lv_iconst (v := 1) hx hb dL_books_409 (by decide) ?_
                                                        refine lv_iadd hx hb dL_books_410 ?_
                                                        refine astI hx hb hK hP hD hS 1 0 rfl rfl (2) rfl (by omega) (by decide) dL_books_411 (fun H locs hP hD hS => ?_)
                                                        have hP : va_P D vwCl ((q15, .inl (T 0, 5, .inl fa)) :: (q11, .inl (T 0, 4, .inl (va_up fc 2 ((fc 2) + 1)))) :: WIN T v B O g ln un nx pl f0 f1 f2) H := hP
                                                        have hD : va_D A ((q15, .inl (T 0, 5, .inl fa)) :: (q11, .inl (T 0, 4, .inl (va_up fc 2 ((fc 2) + 1)))) :: WIN T v B O g ln un nx pl f0 f1 f2) := hD
                                                        refine lv_iload hx hb dL_books_412 (lv_at hl 7 rfl) ?_
                                                        refine lv_iconst (v := 1) hx hb dL_books_414 (by decide) ?_
                                                        refine lv_icmp_ne (tgt := 444) hx hb dL_books_415 (by decide) (fun c415 => ?_) (fun c415 => ?_)
                                                        ·
                                                          refine lv_iload hx hb dL_books_444 (lv_at hl 8 rfl) ?_
                                                          refine lv_if_ne (tgt := 452) hx hb dL_books_446 (by decide) (fun c446 => ?_) (fun c446 => ?_)
                                                          ·
                                                            exact absurd c446 (by decide)
                                                          ·
                                                            refine lv_goto (tgt := 496) hx hb dL_books_449 (by decide) ?_
                                                            refine lv_iinc (v := nI (k + 1)) (lv' := [(10, .int (nI (k + 1))), (9, .int (1)), (18, .int (nI aa)), (17, .int (nI jj)), (16, .int (nI cc)), (15, .int (nI ff)), (14, .int (0)), (13, .int (1)), (12, .int (0)), (11, .int (0)), (8, .int (ba.elim (-101) nI)), (7, .int (bo.elim (-101) nI)), (6, .int (wt)), (5, .int (ag)), (4, .ref (q15)), (3, .ref (q11)), (2, .int (nI K)), (1, .int (nI N)), (0, .ref (v 0))]) hx hb dL_books_496 hl (k := 9) rfl (nI_1 _) (by decide) rfl (fun ls hl => ?_)
                                                            refine lv_goto (tgt := 103) hx hb dL_books_499 (by decide) ?_
                                                            exact ih103 (k + 1) (va_up fc 2 ((fc 2) + 1)) fa ag wt bo ba _ _ (by omega) (by omega) (by first | exact cnt_upd 0 (by omega) e8 (by omega) hfc | exact cnt_upd 1 (by omega) e8 (by omega) hfc | exact cnt_upd 2 (by omega) e8 (by omega) hfc | exact cnt_upd 3 (by omega) e8 (by omega) hfc) (by first | exact ans_yes e8 e10 hjj hK2 (by omega) hfa | exact ans_no (by rw [e8]; decide) (by omega) hfa) (by first | exact sum_yes e8 e6 (by omega) hag | exact sum_no (by rw [e8]; decide) (by omega) hag) (by first | exact sum_yes e8 (by rw [e9, e7]; exact pk_sub (by omega)) (by omega) hwt | exact sum_no (by rw [e8]; decide) (by omega) hwt) (by first | exact best_no (decide_eq_false (by rw [e8]; decide)) (by omega) hbo | exact best_new (decide_eq_true e8) (by omega) hbo | exact best_beat (decide_eq_true e8) (decide_eq_true (by rw [e7]; exact Int32.not_le.mp c467)) (by omega) hbo | exact best_stay (decide_eq_true e8) (decide_eq_false (by rw [e7]; exact Int32.not_lt.mpr c467)) (by omega) hbo) (by first | exact best_no (decide_eq_false (by rw [e8]; decide)) (by omega) hba | exact best_new (decide_eq_true e8) (by omega) hba | exact best_beat (decide_eq_true e8) (decide_eq_true (by rw [e6]; exact Int32.not_le.mp c489)) (by omega) hba | exact best_stay (decide_eq_true e8) (decide_eq_false (by rw [e6]; exact Int32.not_lt.mpr c489)) (by omega) hba) (by intro j h; first | (cases h; omega) | exact hbo2 j h) (by intro j h; first | (cases h; omega) | exact hba2 j h) (by omega) (by omega) _ _ _ hP hD hS (lv_sub hl [0, 1, 10, 11, 12, 13, 14, 15, 16, 17, 18] rfl)
                                                        ·
                                                          exact absurd c415 (by decide)
                                                      ·
                                                        exact absurd c357 (by decide)
                                            ·
                                              exact absurd c302 (by decide)
                                          ·
                                            exact absurd c288 (nI_nneg (by omega) (by decide))
                                  ·
                                    exact absurd c233 (by decide)
                        ·
                          refine lv_aload_n hx hb dL_books_114 rfl (lv_at hl 10 rfl) ?_
                          refine lv_bipush (v := 27) hx hb dL_books_115 (by decide) ?_
                          refine lv_iload hx hb dL_books_117 (lv_at hl 0 rfl) ?_
                          refine lqSi (As := [.ref (v 0), .int (27), .int (nI k)]) (rest := []) ⟨hx, hb, hml, hown, hts⟩ (c_ask_isWaiting l hl9 D T aK aV v B O g ln un nx pl f0 f1 f2 k N K C nt hOI (by omega) _) (va_cwS 3 hts (gC gl_L_call__) rfl rfl rfl (by decide +kernel) ⟨Nat.le_of_ble_eq_true rfl, Nat.le_of_ble_eq_true rfl⟩) (Foc.pre [(q15, .inl (T 0, 5, .inl fa)), (q11, .inl (T 0, 4, .inl fc))] _ _) hC hNC hK hP hD hS hA rfl hl.1 rfl (Nat.le_of_ble_eq_true rfl) ⟨by show _ ≤ 2200; omega, by show _ ≤ 13200; omega⟩ dL_books_119 (fun H locs hP hD hS => ?_)
                          have hP : va_P D vwCl ((q15, .inl (T 0, 5, .inl fa)) :: (q11, .inl (T 0, 4, .inl fc)) :: WIN T v B O g ln un nx pl f0 f1 f2) H := hP
                          have hD : va_D A ((q15, .inl (T 0, 5, .inl fa)) :: (q11, .inl (T 0, 4, .inl fc)) :: WIN T v B O g ln un nx pl f0 f1 f2) := hD
                          refine endI (r := 0) (by rw [e8]; decide) ?_
                          refine lv_istore (lv' := [(11, .int (0)), (10, .int (nI k)), (9, .int (1)), (8, .int (ba.elim (-101) nI)), (7, .int (bo.elim (-101) nI)), (6, .int (wt)), (5, .int (ag)), (4, .ref (q15)), (3, .ref (q11)), (2, .int (nI K)), (1, .int (nI N)), (0, .ref (v 0))]) hx hb dL_books_122 hl (by decide) rfl (fun ls hl => ?_)
                          refine lv_aload_n hx hb dL_books_124 rfl (lv_at hl 11 rfl) ?_
                          refine lv_bipush (v := 28) hx hb dL_books_125 (by decide) ?_
                          refine lv_iload hx hb dL_books_127 (lv_at hl 1 rfl) ?_
                          refine lqSi (As := [.ref (v 0), .int (28), .int (nI k)]) (rest := []) ⟨hx, hb, hml, hown, hts⟩ (c_ask_isAnswered l hl9 D T aK aV v B O g ln un nx pl f0 f1 f2 k N K C nt hOI (by omega) _) (va_cwS 3 hts (gC gl_L_call__) rfl rfl rfl (by decide +kernel) ⟨Nat.le_of_ble_eq_true rfl, Nat.le_of_ble_eq_true rfl⟩) (Foc.pre [(q15, .inl (T 0, 5, .inl fa)), (q11, .inl (T 0, 4, .inl fc))] _ _) hC hNC hK hP hD hS hA rfl hl.1 rfl (Nat.le_of_ble_eq_true rfl) ⟨by show _ ≤ 2200; omega, by show _ ≤ 13200; omega⟩ dL_books_129 (fun H locs hP hD hS => ?_)
                          have hP : va_P D vwCl ((q15, .inl (T 0, 5, .inl fa)) :: (q11, .inl (T 0, 4, .inl fc)) :: WIN T v B O g ln un nx pl f0 f1 f2) H := hP
                          have hD : va_D A ((q15, .inl (T 0, 5, .inl fa)) :: (q11, .inl (T 0, 4, .inl fc)) :: WIN T v B O g ln un nx pl f0 f1 f2) := hD
                          refine endI (r := 0) (by rw [e8]; decide) ?_
                          refine lv_istore (lv' := [(12, .int (0)), (11, .int (0)), (10, .int (nI k)), (9, .int (1)), (8, .int (ba.elim (-101) nI)), (7, .int (bo.elim (-101) nI)), (6, .int (wt)), (5, .int (ag)), (4, .ref (q15)), (3, .ref (q11)), (2, .int (nI K)), (1, .int (nI N)), (0, .ref (v 0))]) hx hb dL_books_132 hl (by decide) rfl (fun ls hl => ?_)
                          refine lv_aload_n hx hb dL_books_134 rfl (lv_at hl 12 rfl) ?_
                          refine lv_bipush (v := 29) hx hb dL_books_135 (by decide) ?_
                          refine lv_iload hx hb dL_books_137 (lv_at hl 2 rfl) ?_
                          refine lqSi (As := [.ref (v 0), .int (29), .int (nI k)]) (rest := []) ⟨hx, hb, hml, hown, hts⟩ (c_ask_isDismissed l hl9 D T aK aV v B O g ln un nx pl f0 f1 f2 k N K C nt hOI (by omega) _) (va_cwS 3 hts (gC gl_L_call__) rfl rfl rfl (by decide +kernel) ⟨Nat.le_of_ble_eq_true rfl, Nat.le_of_ble_eq_true rfl⟩) (Foc.pre [(q15, .inl (T 0, 5, .inl fa)), (q11, .inl (T 0, 4, .inl fc))] _ _) hC hNC hK hP hD hS hA rfl hl.1 rfl (Nat.le_of_ble_eq_true rfl) ⟨by show _ ≤ 2200; omega, by show _ ≤ 13200; omega⟩ dL_books_139 (fun H locs hP hD hS => ?_)
                          have hP : va_P D vwCl ((q15, .inl (T 0, 5, .inl fa)) :: (q11, .inl (T 0, 4, .inl fc)) :: WIN T v B O g ln un nx pl f0 f1 f2) H := hP
                          have hD : va_D A ((q15, .inl (T 0, 5, .inl fa)) :: (q11, .inl (T 0, 4, .inl fc)) :: WIN T v B O g ln un nx pl f0 f1 f2) := hD
                          refine endI (r := 0) (by rw [e8]; decide) ?_
                          refine lv_istore (lv' := [(13, .int (0)), (12, .int (0)), (11, .int (0)), (10, .int (nI k)), (9, .int (1)), (8, .int (ba.elim (-101) nI)), (7, .int (bo.elim (-101) nI)), (6, .int (wt)), (5, .int (ag)), (4, .ref (q15)), (3, .ref (q11)), (2, .int (nI K)), (1, .int (nI N)), (0, .ref (v 0))]) hx hb dL_books_142 hl (by decide) rfl (fun ls hl => ?_)
                          refine lv_aload_n hx hb dL_books_144 rfl (lv_at hl 13 rfl) ?_
                          refine lv_bipush (v := 30) hx hb dL_books_145 (by decide) ?_
                          refine lv_iload hx hb dL_books_147 (lv_at hl 3 rfl) ?_
                          refine lqSi (As := [.ref (v 0), .int (30), .int (nI k)]) (rest := []) ⟨hx, hb, hml, hown, hts⟩ (c_ask_isGivenUp l hl9 D T aK aV v B O g ln un nx pl f0 f1 f2 k N K C nt hOI (by omega) _) (va_cwS 3 hts (gC gl_L_call__) rfl rfl rfl (by decide +kernel) ⟨Nat.le_of_ble_eq_true rfl, Nat.le_of_ble_eq_true rfl⟩) (Foc.pre [(q15, .inl (T 0, 5, .inl fa)), (q11, .inl (T 0, 4, .inl fc))] _ _) hC hNC hK hP hD hS hA rfl hl.1 rfl (Nat.le_of_ble_eq_true rfl) ⟨by show _ ≤ 2200; omega, by show _ ≤ 13200; omega⟩ dL_books_149 (fun H locs hP hD hS => ?_)
                          have hP : va_P D vwCl ((q15, .inl (T 0, 5, .inl fa)) :: (q11, .inl (T 0, 4, .inl fc)) :: WIN T v B O g ln un nx pl f0 f1 f2) H := hP
                          have hD : va_D A ((q15, .inl (T 0, 5, .inl fa)) :: (q11, .inl (T 0, 4, .inl fc)) :: WIN T v B O g ln un nx pl f0 f1 f2) := hD
                          refine endI (r := 1) (by rw [e8]; decide) ?_
                          refine lv_istore (lv' := [(14, .int (1)), (13, .int (0)), (12, .int (0)), (11, .int (0)), (10, .int (nI k)), (9, .int (1)), (8, .int (ba.elim (-101) nI)), (7, .int (bo.elim (-101) nI)), (6, .int (wt)), (5, .int (ag)), (4, .ref (q15)), (3, .ref (q11)), (2, .int (nI K)), (1, .int (nI N)), (0, .ref (v 0))]) hx hb dL_books_152 hl (by decide) rfl (fun ls hl => ?_)
                          refine lv_aload_n hx hb dL_books_154 rfl (lv_at hl 14 rfl) ?_
                          refine lv_bipush (v := 26) hx hb dL_books_155 (by decide) ?_
                          refine lv_iload hx hb dL_books_157 (lv_at hl 4 rfl) ?_
                          refine lqSi (As := [.ref (v 0), .int (26), .int (nI k)]) (rest := []) ⟨hx, hb, hml, hown, hts⟩ (c_ask_filedIn l hl9 D T aK aV v B O g ln un nx pl f0 f1 f2 k N K C nt hOI (by omega) _) (va_cwS 3 hts (gC gl_L_call__) rfl rfl rfl (by decide +kernel) ⟨Nat.le_of_ble_eq_true rfl, Nat.le_of_ble_eq_true rfl⟩) (Foc.pre [(q15, .inl (T 0, 5, .inl fa)), (q11, .inl (T 0, 4, .inl fc))] _ _) hC hNC hK hP hD hS hA rfl hl.1 rfl (Nat.le_of_ble_eq_true rfl) ⟨by show _ ≤ 2200; omega, by show _ ≤ 13200; omega⟩ dL_books_159 (fun H locs hP hD hS => ?_)
                          have hP : va_P D vwCl ((q15, .inl (T 0, 5, .inl fa)) :: (q11, .inl (T 0, 4, .inl fc)) :: WIN T v B O g ln un nx pl f0 f1 f2) H := hP
                          have hD : va_D A ((q15, .inl (T 0, 5, .inl fa)) :: (q11, .inl (T 0, 4, .inl fc)) :: WIN T v B O g ln un nx pl f0 f1 f2) := hD
                          refine endI (r := nI ff) (e7) ?_
                          refine lv_istore (lv' := [(15, .int (nI ff)), (14, .int (1)), (13, .int (0)), (12, .int (0)), (11, .int (0)), (10, .int (nI k)), (9, .int (1)), (8, .int (ba.elim (-101) nI)), (7, .int (bo.elim (-101) nI)), (6, .int (wt)), (5, .int (ag)), (4, .ref (q15)), (3, .ref (q11)), (2, .int (nI K)), (1, .int (nI N)), (0, .ref (v 0))]) hx hb dL_books_162 hl (by decide) rfl (fun ls hl => ?_)
                          refine lv_aload_n hx hb dL_books_164 rfl (lv_at hl 15 rfl) ?_
                          refine lv_bipush (v := 31) hx hb dL_books_165 (by decide) ?_
                          refine lv_iload hx hb dL_books_167 (lv_at hl 5 rfl) ?_
                          refine lqSi (As := [.ref (v 0), .int (31), .int (nI k)]) (rest := []) ⟨hx, hb, hml, hown, hts⟩ (c_ask_closedIn l hl9 D T aK aV v B O g ln un nx pl f0 f1 f2 k N K C nt hOI (by omega) _) (va_cwS 3 hts (gC gl_L_call__) rfl rfl rfl (by decide +kernel) ⟨Nat.le_of_ble_eq_true rfl, Nat.le_of_ble_eq_true rfl⟩) (Foc.pre [(q15, .inl (T 0, 5, .inl fa)), (q11, .inl (T 0, 4, .inl fc))] _ _) hC hNC hK hP hD hS hA rfl hl.1 rfl (Nat.le_of_ble_eq_true rfl) ⟨by show _ ≤ 2200; omega, by show _ ≤ 13200; omega⟩ dL_books_169 (fun H locs hP hD hS => ?_)
                          have hP : va_P D vwCl ((q15, .inl (T 0, 5, .inl fa)) :: (q11, .inl (T 0, 4, .inl fc)) :: WIN T v B O g ln un nx pl f0 f1 f2) H := hP
                          have hD : va_D A ((q15, .inl (T 0, 5, .inl fa)) :: (q11, .inl (T 0, 4, .inl fc)) :: WIN T v B O g ln un nx pl f0 f1 f2) := hD
                          refine endI (r := nI cc) (by rw [if_neg (by rw [e8]; decide)]; exact e9) ?_
                          refine lv_istore (lv' := [(16, .int (nI cc)), (15, .int (nI ff)), (14, .int (1)), (13, .int (0)), (12, .int (0)), (11, .int (0)), (10, .int (nI k)), (9, .int (1)), (8, .int (ba.elim (-101) nI)), (7, .int (bo.elim (-101) nI)), (6, .int (wt)), (5, .int (ag)), (4, .ref (q15)), (3, .ref (q11)), (2, .int (nI K)), (1, .int (nI N)), (0, .ref (v 0))]) hx hb dL_books_172 hl (by decide) rfl (fun ls hl => ?_)
                          refine lv_aload_n hx hb dL_books_174 rfl (lv_at hl 16 rfl) ?_
                          refine lv_bipush (v := 32) hx hb dL_books_175 (by decide) ?_
                          refine lv_iload hx hb dL_books_177 (lv_at hl 6 rfl) ?_
                          refine lqSi (As := [.ref (v 0), .int (32), .int (nI k)]) (rest := []) ⟨hx, hb, hml, hown, hts⟩ (c_ask_clerkOf l hl9 D T aK aV v B O g ln un nx pl f0 f1 f2 k N K C nt hOI (by omega) _) (va_cwS 3 hts (gC gl_L_call__) rfl rfl rfl (by decide +kernel) ⟨Nat.le_of_ble_eq_true rfl, Nat.le_of_ble_eq_true rfl⟩) (Foc.pre [(q15, .inl (T 0, 5, .inl fa)), (q11, .inl (T 0, 4, .inl fc))] _ _) hC hNC hK hP hD hS hA rfl hl.1 rfl (Nat.le_of_ble_eq_true rfl) ⟨by show _ ≤ 2200; omega, by show _ ≤ 13200; omega⟩ dL_books_179 (fun H locs hP hD hS => ?_)
                          have hP : va_P D vwCl ((q15, .inl (T 0, 5, .inl fa)) :: (q11, .inl (T 0, 4, .inl fc)) :: WIN T v B O g ln un nx pl f0 f1 f2) H := hP
                          have hD : va_D A ((q15, .inl (T 0, 5, .inl fa)) :: (q11, .inl (T 0, 4, .inl fc)) :: WIN T v B O g ln un nx pl f0 f1 f2) := hD
                          refine endI (r := -101) (if_pos e10) ?_
                          refine lv_istore (lv' := [(17, .int (-101)), (16, .int (nI cc)), (15, .int (nI ff)), (14, .int (1)), (13, .int (0)), (12, .int (0)), (11, .int (0)), (10, .int (nI k)), (9, .int (1)), (8, .int (ba.elim (-101) nI)), (7, .int (bo.elim (-101) nI)), (6, .int (wt)), (5, .int (ag)), (4, .ref (q15)), (3, .ref (q11)), (2, .int (nI K)), (1, .int (nI N)), (0, .ref (v 0))]) hx hb dL_books_182 hl (by decide) rfl (fun ls hl => ?_)
                          refine lv_aload_n hx hb dL_books_184 rfl (lv_at hl 17 rfl) ?_
                          refine lv_bipush (v := 25) hx hb dL_books_185 (by decide) ?_
                          refine lv_iload hx hb dL_books_187 (lv_at hl 7 rfl) ?_
                          refine lqSi (As := [.ref (v 0), .int (25), .int (nI k)]) (rest := []) ⟨hx, hb, hml, hown, hts⟩ (c_ask_angerOf l hl9 D T aK aV v B O g ln un nx pl f0 f1 f2 k N K C nt hOI (by omega) _) (va_cwS 3 hts (gC gl_L_call__) rfl rfl rfl (by decide +kernel) ⟨Nat.le_of_ble_eq_true rfl, Nat.le_of_ble_eq_true rfl⟩) (Foc.pre [(q15, .inl (T 0, 5, .inl fa)), (q11, .inl (T 0, 4, .inl fc))] _ _) hC hNC hK hP hD hS hA rfl hl.1 rfl (Nat.le_of_ble_eq_true rfl) ⟨by show _ ≤ 2200; omega, by show _ ≤ 13200; omega⟩ dL_books_189 (fun H locs hP hD hS => ?_)
                          have hP : va_P D vwCl ((q15, .inl (T 0, 5, .inl fa)) :: (q11, .inl (T 0, 4, .inl fc)) :: WIN T v B O g ln un nx pl f0 f1 f2) H := hP
                          have hD : va_D A ((q15, .inl (T 0, 5, .inl fa)) :: (q11, .inl (T 0, 4, .inl fc)) :: WIN T v B O g ln un nx pl f0 f1 f2) := hD
                          refine endI (r := nI aa) (e6) ?_
                          refine lv_istore (lv' := [(18, .int (nI aa)), (17, .int (-101)), (16, .int (nI cc)), (15, .int (nI ff)), (14, .int (1)), (13, .int (0)), (12, .int (0)), (11, .int (0)), (10, .int (nI k)), (9, .int (1)), (8, .int (ba.elim (-101) nI)), (7, .int (bo.elim (-101) nI)), (6, .int (wt)), (5, .int (ag)), (4, .ref (q15)), (3, .ref (q11)), (2, .int (nI K)), (1, .int (nI N)), (0, .ref (v 0))]) hx hb dL_books_192 hl (by decide) rfl (fun ls hl => ?_)
                          refine lv_iload hx hb dL_books_194 (lv_at hl 7 rfl) ?_
                          refine lv_iload hx hb dL_books_196 (lv_at hl 6 rfl) ?_
                          refine lv_iadd hx hb dL_books_198 ?_
                          refine endI (r := 0) (by decide) ?_
                          refine lv_iload hx hb dL_books_199 (lv_at hl 5 rfl) ?_
                          refine lv_iadd hx hb dL_books_201 ?_
                          refine endI (r := 0) (by decide) ?_
                          refine lv_iload hx hb dL_books_202 (lv_at hl 4 rfl) ?_
                          refine lv_iadd hx hb dL_books_204 ?_
                          refine endI (r := 1) (by decide) ?_
                          refine lv_iconst (v := 1) hx hb dL_books_205 (by decide) ?_
                          refine lv_icmp_ne (tgt := 391) hx hb dL_books_206 (by decide) (fun c206 => ?_) (fun c206 => ?_)
                          ·
                            exact absurd c206 (by decide)
                          ·
                            refine lv_iload hx hb dL_books_209 (lv_at hl 3 rfl) ?_
                            refine lv_aload_n hx hb dL_books_211 rfl (lv_at hl 18 rfl) ?_
                            refine rdV (As := []) (rest := [.int (nI ff)]) ⟨hx, hb, hml, hown, hts⟩ (c_X9_night l D T v B O g ln un nx pl f0 f1 f2 ) (cwV 0 hts (gC gl_X9_night) rfl rfl rfl (by decide +kernel) ⟨Nat.le_of_ble_eq_true rfl, Nat.le_of_ble_eq_true rfl⟩) hK (wTail (x := [(q15, .inl (T 0, 5, .inl fa)), (q11, .inl (T 0, 4, .inl fc))]) hP hD).1 0 rfl rfl rfl hl.1 rfl (Nat.le_of_ble_eq_true rfl) ⟨by show _ ≤ 2200; omega, by show _ ≤ 13200; omega⟩ dL_books_212 ?_
                            refine endI (r := nI nt) (hn) ?_
                            refine lv_icmp_gt (tgt := 391) hx hb dL_books_215 (by decide) (fun c215 => ?_) (fun c215 => ?_)
                            ·
                              have c215 : nt < ff := (nI_ltI (a := nt) (b := ff) (by omega) (by omega)).mp c215
                              exfalso; omega
                            ·
                              have c215 : ¬ nt < ff := fun h9 => c215 ((nI_ltI (a := nt) (b := ff) (by omega) (by omega)).mpr h9)
                              refine lv_iload hx hb dL_books_218 (lv_at hl 0 rfl) ?_
                              refine lv_if_le (tgt := 391) hx hb dL_books_220 (by decide) (fun c220 => ?_) (fun c220 => ?_)
                              ·
                                have c220 : aa ≤ 0 := (nI_leI (a := aa) (b := 0) (by omega) (by omega)).mp c220
                                exfalso; omega
                              ·
                                have c220 : ¬ aa ≤ 0 := fun h9 => c220 ((nI_leI (a := aa) (b := 0) (by omega) (by omega)).mpr h9)
                                refine lv_iload hx hb dL_books_223 (lv_at hl 0 rfl) ?_
                                refine lv_bipush (v := 10) hx hb dL_books_225 (by decide) ?_
                                refine lv_icmp_ge (tgt := 391) hx hb dL_books_227 (by decide) (fun c227 => ?_) (fun c227 => ?_)
                                ·
                                  have c227 : 10 ≤ aa := (nI_leI (a := 10) (b := aa) (by omega) (by omega)).mp c227
                                  exfalso; omega
                                ·
                                  have c227 : ¬ 10 ≤ aa := fun h9 => c227 ((nI_leI (a := 10) (b := aa) (by omega) (by omega)).mpr h9)
                                  refine lv_iload hx hb dL_books_230 (lv_at hl 7 rfl) ?_
                                  refine lv_iconst (v := 1) hx hb dL_books_232 (by decide) ?_
                                  refine lv_icmp_ne (tgt := 258) hx hb dL_books_233 (by decide) (fun c233 => ?_) (fun c233 => ?_)
                                  ·
                                    refine lv_iload hx hb dL_books_258 (lv_at hl 2 rfl) ?_
                                    refine lv_iload hx hb dL_books_260 (lv_at hl 3 rfl) ?_
                                    refine lv_icmp_lt (tgt := 391) hx hb dL_books_262 (by decide) (fun c262 => ?_) (fun c262 => ?_)
                                    ·
                                      have c262 : cc < ff := (nI_ltI (a := cc) (b := ff) (by omega) (by omega)).mp c262
                                      exfalso; omega
                                    ·
                                      have c262 : ¬ cc < ff := fun h9 => c262 ((nI_ltI (a := cc) (b := ff) (by omega) (by omega)).mpr h9)
                                      refine lv_iload hx hb dL_books_265 (lv_at hl 2 rfl) ?_
                                      refine lv_aload_n hx hb dL_books_267 rfl (lv_at hl 18 rfl) ?_
                                      refine rdV (As := []) (rest := [.int (nI cc)]) ⟨hx, hb, hml, hown, hts⟩ (c_X9_night l D T v B O g ln un nx pl f0 f1 f2 ) (cwV 0 hts (gC gl_X9_night) rfl rfl rfl (by decide +kernel) ⟨Nat.le_of_ble_eq_true rfl, Nat.le_of_ble_eq_true rfl⟩) hK (wTail (x := [(q15, .inl (T 0, 5, .inl fa)), (q11, .inl (T 0, 4, .inl fc))]) hP hD).1 0 rfl rfl rfl hl.1 rfl (Nat.le_of_ble_eq_true rfl) ⟨by show _ ≤ 2200; omega, by show _ ≤ 13200; omega⟩ dL_books_268 ?_
                                      refine endI (r := nI nt) (hn) ?_
                                      refine lv_icmp_gt (tgt := 391) hx hb dL_books_271 (by decide) (fun c271 => ?_) (fun c271 => ?_)
                                      ·
                                        have c271 : nt < cc := (nI_ltI (a := nt) (b := cc) (by omega) (by omega)).mp c271
                                        exfalso; omega
                                      ·
                                        have c271 : ¬ nt < cc := fun h9 => c271 ((nI_ltI (a := nt) (b := cc) (by omega) (by omega)).mpr h9)
                                        refine lv_iload hx hb dL_books_274 (lv_at hl 2 rfl) ?_
                                        refine lv_iload hx hb dL_books_276 (lv_at hl 3 rfl) ?_
                                        refine lv_isub hx hb dL_books_278 ?_
                                        refine endI (r := nI (cc - ff)) (pk_sub (a := cc) (b := ff) (by omega)) ?_
                                        refine lv_bipush (v := 56) hx hb dL_books_279 (by decide) ?_
                                        refine lv_icmp_gt (tgt := 391) hx hb dL_books_281 (by decide) (fun c281 => ?_) (fun c281 => ?_)
                                        ·
                                          have c281 : 56 < (cc - ff) := (nI_ltI (a := 56) (b := (cc - ff)) (by omega) (by omega)).mp c281
                                          exfalso; omega
                                        ·
                                          have c281 : ¬ 56 < (cc - ff) := fun h9 => c281 ((nI_ltI (a := 56) (b := (cc - ff)) (by omega) (by omega)).mpr h9)
                                          refine lv_iload hx hb dL_books_284 (lv_at hl 1 rfl) ?_
                                          refine lv_bipush (v := -101) hx hb dL_books_286 (by decide) ?_
                                          refine lv_icmp_ne (tgt := 295) hx hb dL_books_288 (by decide) (fun c288 => ?_) (fun c288 => ?_)
                                          ·
                                            exact absurd c288 (by decide)
                                          ·
                                            refine lv_iconst (v := 1) hx hb dL_books_291 (by decide) ?_
                                            refine lv_goto (tgt := 296) hx hb dL_books_292 (by decide) ?_
                                            refine lv_iload hx hb dL_books_296 (lv_at hl 7 rfl) ?_
                                            refine lv_iload hx hb dL_books_298 (lv_at hl 4 rfl) ?_
                                            refine lv_iadd hx hb dL_books_300 ?_
                                            refine endI (r := 1) (by decide) ?_
                                            refine lv_iconst (v := 1) hx hb dL_books_301 (by decide) ?_
                                            refine lv_icmp_ne (tgt := 309) hx hb dL_books_302 (by decide) (fun c302 => ?_) (fun c302 => ?_)
                                            ·
                                              exact absurd c302 (by decide)
                                            ·
                                              refine lv_iconst (v := 1) hx hb dL_books_305 (by decide) ?_
                                              refine lv_goto (tgt := 310) hx hb dL_books_306 (by decide) ?_
                                              refine lv_icmp_ne (tgt := 391) hx hb dL_books_310 (by decide) (fun c310 => ?_) (fun c310 => ?_)
                                              ·
                                                exact absurd c310 (by decide)
                                              ·
                                                refine lv_iload hx hb dL_books_313 (lv_at hl 5 rfl) ?_
                                                refine lv_if_eq (tgt := 328) hx hb dL_books_315 (by decide) (fun c315 => ?_) (fun c315 => ?_)
                                                ·
                                                  refine lv_aload_n hx hb dL_books_328 rfl (lv_at hl 18 rfl) ?_
                                                  refine lv_bipush (v := 33) hx hb dL_books_329 (by decide) ?_
                                                  refine lv_aload_n hx hb dL_books_331 rfl (lv_at hl 18 rfl) ?_
                                                  refine lv_bipush (v := 23) hx hb dL_books_332 (by decide) ?_
                                                  refine lv_iload hx hb dL_books_334 (lv_at hl 8 rfl) ?_
                                                  refine lqSi (As := [.ref (v 0), .int (23), .int (nI k)]) (rest := [.int (33), .ref (v 0)]) ⟨hx, hb, hml, hown, hts⟩ (c_ask_personOf l hl9 D T aK aV v B O g ln un nx pl f0 f1 f2 k N K C nt hOI (by omega) _) (va_cwS 3 hts (gC gl_L_call__) rfl rfl rfl (by decide +kernel) ⟨Nat.le_of_ble_eq_true rfl, Nat.le_of_ble_eq_true rfl⟩) (Foc.pre [(q15, .inl (T 0, 5, .inl fa)), (q11, .inl (T 0, 4, .inl fc))] _ _) hC hNC hK hP hD hS hA rfl hl.1 rfl (Nat.le_of_ble_eq_true rfl) ⟨by show _ ≤ 2200; omega, by show _ ≤ 13200; omega⟩ dL_books_336 (fun H locs hP hD hS => ?_)
                                                  have hP : va_P D vwCl ((q15, .inl (T 0, 5, .inl fa)) :: (q11, .inl (T 0, 4, .inl fc)) :: WIN T v B O g ln un nx pl f0 f1 f2) H := hP
                                                  have hD : va_D A ((q15, .inl (T 0, 5, .inl fa)) :: (q11, .inl (T 0, 4, .inl fc)) :: WIN T v B O g ln un nx pl f0 f1 f2) := hD
                                                  refine endI (r := nI pp) (e4) ?_
                                                  refine lv_aload_n hx hb dL_books_339 rfl (lv_at hl 18 rfl) ?_
                                                  refine lv_bipush (v := 24) hx hb dL_books_340 (by decide) ?_
                                                  refine lv_iload hx hb dL_books_342 (lv_at hl 8 rfl) ?_
                                                  refine lqSi (As := [.ref (v 0), .int (24), .int (nI k)]) (rest := [.int (nI pp), .int (33), .ref (v 0)]) ⟨hx, hb, hml, hown, hts⟩ (c_ask_sortOf l hl9 D T aK aV v B O g ln un nx pl f0 f1 f2 k N K C nt hOI (by omega) _) (va_cwS 3 hts (gC gl_L_call__) rfl rfl rfl (by decide +kernel) ⟨Nat.le_of_ble_eq_true rfl, Nat.le_of_ble_eq_true rfl⟩) (Foc.pre [(q15, .inl (T 0, 5, .inl fa)), (q11, .inl (T 0, 4, .inl fc))] _ _) hC hNC hK hP hD hS hA rfl hl.1 rfl (Nat.le_of_ble_eq_true rfl) ⟨by show _ ≤ 2200; omega, by show _ ≤ 13200; omega⟩ dL_books_344 (fun H locs hP hD hS => ?_)
                                                  have hP : va_P D vwCl ((q15, .inl (T 0, 5, .inl fa)) :: (q11, .inl (T 0, 4, .inl fc)) :: WIN T v B O g ln un nx pl f0 f1 f2) H := hP
                                                  have hD : va_D A ((q15, .inl (T 0, 5, .inl fa)) :: (q11, .inl (T 0, 4, .inl fc)) :: WIN T v B O g ln un nx pl f0 f1 f2) := hD
                                                  refine endI (r := nI qq) (e5) ?_
                                                  refine lqSi (As := [.ref (v 0), .int (33), .int (nI pp), .int (nI qq)]) (rest := []) ⟨hx, hb, hml, hown, hts⟩ (c_ask_waitingOf l hl9 D T aK aV v B O g ln un nx pl f0 f1 f2 (nI pp) (nI qq) N K C nt hOI (rg_99 (by omega)) (rg_3 (by omega)) _) (va_cwS 4 hts (gC gl_L_call_) rfl rfl rfl (by decide +kernel) ⟨Nat.le_of_ble_eq_true rfl, Nat.le_of_ble_eq_true rfl⟩) (Foc.pre [(q15, .inl (T 0, 5, .inl fa)), (q11, .inl (T 0, 4, .inl fc))] _ _) hC hNC hK hP hD hS hA rfl hl.1 rfl (Nat.le_of_ble_eq_true rfl) ⟨by show _ ≤ 2200; omega, by show _ ≤ 13200; omega⟩ dL_books_347 (fun H locs hP hD hS => ?_)
                                                  have hP : va_P D vwCl ((q15, .inl (T 0, 5, .inl fa)) :: (q11, .inl (T 0, 4, .inl fc)) :: WIN T v B O g ln un nx pl f0 f1 f2) H := hP
                                                  have hD : va_D A ((q15, .inl (T 0, 5, .inl fa)) :: (q11, .inl (T 0, 4, .inl fc)) :: WIN T v B O g ln un nx pl f0 f1 f2) := hD
                                                  refine lv_bipush (v := -104) hx hb dL_books_350 (by decide) ?_
                                                  refine lv_icmp_eq (tgt := 391) hx hb dL_books_352 (by decide) (fun c352 => ?_) (fun c352 => ?_)
                                                  ·
                                                    exact absurd c352 (opt_ne (fun j h => by have := (findC_lt h).1; omega) (by decide) (by decide))
                                                  ·
                                                    refine lv_iload hx hb dL_books_355 (lv_at hl 7 rfl) ?_
                                                    refine lv_if_eq (tgt := 387) hx hb dL_books_357 (by decide) (fun c357 => ?_) (fun c357 => ?_)
                                                    ·
                                                      refine lv_iconst (v := 1) hx hb dL_books_387 (by decide) ?_
                                                      refine lv_goto (tgt := 392) hx hb dL_books_388 (by decide) ?_
                                                      refine lv_istore (lv' := [(9, .int (1)), (18, .int (nI aa)), (17, .int (-101)), (16, .int (nI cc)), (15, .int (nI ff)), (14, .int (1)), (13, .int (0)), (12, .int (0)), (11, .int (0)), (10, .int (nI k)), (8, .int (ba.elim (-101) nI)), (7, .int (bo.elim (-101) nI)), (6, .int (wt)), (5, .int (ag)), (4, .ref (q15)), (3, .ref (q11)), (2, .int (nI K)), (1, .int (nI N)), (0, .ref (v 0))]) hx hb dL_books_392 hl (by decide) rfl (fun ls hl => ?_)
                                                      refine lv_aload_n hx hb dL_books_394 rfl (lv_at hl 15 rfl) ?_
                                                      refine lv_iload hx hb dL_books_395 (lv_at hl 7 rfl) ?_
                                                      refine lv_iconst (v := 2) hx hb dL_books_397 (by decide) ?_
                                                      refine lv_iload hx hb dL_books_398 (lv_at hl 6 rfl) ?_
                                                      refine lv_imul hx hb dL_books_400 ?_
                                                      refine endI (r := 0) (by decide) ?_
                                                      refine lv_iadd hx hb dL_books_401 ?_
                                                      refine endI (r := 0) (by decide) ?_
                                                      refine lv_iconst (v := 3) hx hb dL_books_402 (by decide) ?_
                                                      refine lv_iload hx hb dL_books_403 (lv_at hl 5 rfl) ?_
                                                      refine lv_imul hx hb dL_books_405 ?_
                                                      refine endI (r := 3) (by decide) ?_
                                                      refine lv_iadd hx hb dL_books_406 ?_
                                                      refine endI (r := 3) (by decide) ?_
                                                      refine lv_dup2_11 hx hb dL_books_407 rfl rfl ?_
                                                      refine aldI hx hb hK hP 1 0 rfl rfl (3) rfl (by omega) (by decide) dL_books_408 ?_
                                                      refine lv_iconst (v := 1) hx hb dL_books_409 (by decide) ?_
                                                      refine lv_iadd hx hb dL_books_410 ?_
                                                      refine astI hx hb hK hP hD hS 1 0 rfl rfl (3) rfl (by omega) (by decide) dL_books_411 (fun H locs hP hD hS => ?_)
                                                      have hP : va_P D vwCl ((q15, .inl (T 0, 5, .inl fa)) :: (q11, .inl (T 0, 4, .inl (va_up fc 3 ((fc 3) + 1)))) :: WIN T v B O g ln un nx pl f0 f1 f2) H := hP
                                                      have hD : va_D A ((q15, .inl (T 0, 5, .inl fa)) :: (q11, .inl (T 0, 4, .inl (va_up fc 3 ((fc 3) + 1)))) :: WIN T v B O g ln un nx pl f0 f1 f2) := hD
                                                      refine lv_iload hx hb dL_books_412 (lv_at hl 7 rfl) ?_
                                                      refine lv_iconst (v := 1) hx hb dL_books_414 (by decide) ?_
                                                      refine lv_icmp_ne (tgt := 444) hx hb dL_books_415 (by decide) (fun c415 => ?_) (fun c415 => ?_)
                                                      ·
                                                        refine lv_iload hx hb dL_books_444 (lv_at hl 8 rfl) ?_
                                                        refine lv_if_ne (tgt := 452) hx hb dL_books_446 (by decide) (fun c446 => ?_) (fun c446 => ?_)
                                                        ·
                                                          exact absurd c446 (by decide)
                                                        ·
                                                          refine lv_goto (tgt := 496) hx hb dL_books_449 (by decide) ?_
                                                          refine lv_iinc (v := nI (k + 1)) (lv' := [(10, .int (nI (k + 1))), (9, .int (1)), (18, .int (nI aa)), (17, .int (-101)), (16, .int (nI cc)), (15, .int (nI ff)), (14, .int (1)), (13, .int (0)), (12, .int (0)), (11, .int (0)), (8, .int (ba.elim (-101) nI)), (7, .int (bo.elim (-101) nI)), (6, .int (wt)), (5, .int (ag)), (4, .ref (q15)), (3, .ref (q11)), (2, .int (nI K)), (1, .int (nI N)), (0, .ref (v 0))]) hx hb dL_books_496 hl (k := 9) rfl (nI_1 _) (by decide) rfl (fun ls hl => ?_)
                                                          refine lv_goto (tgt := 103) hx hb dL_books_499 (by decide) ?_
                                                          exact ih103 (k + 1) (va_up fc 3 ((fc 3) + 1)) fa ag wt bo ba _ _ (by omega) (by omega) (by first | exact cnt_upd 0 (by omega) e8 (by omega) hfc | exact cnt_upd 1 (by omega) e8 (by omega) hfc | exact cnt_upd 2 (by omega) e8 (by omega) hfc | exact cnt_upd 3 (by omega) e8 (by omega) hfc) (by first | exact ans_yes e8 e10 hjj hK2 (by omega) hfa | exact ans_no (by rw [e8]; decide) (by omega) hfa) (by first | exact sum_yes e8 e6 (by omega) hag | exact sum_no (by rw [e8]; decide) (by omega) hag) (by first | exact sum_yes e8 (by rw [e9, e7]; exact pk_sub (by omega)) (by omega) hwt | exact sum_no (by rw [e8]; decide) (by omega) hwt) (by first | exact best_no (decide_eq_false (by rw [e8]; decide)) (by omega) hbo | exact best_new (decide_eq_true e8) (by omega) hbo | exact best_beat (decide_eq_true e8) (decide_eq_true (by rw [e7]; exact Int32.not_le.mp c467)) (by omega) hbo | exact best_stay (decide_eq_true e8) (decide_eq_false (by rw [e7]; exact Int32.not_lt.mpr c467)) (by omega) hbo) (by first | exact best_no (decide_eq_false (by rw [e8]; decide)) (by omega) hba | exact best_new (decide_eq_true e8) (by omega) hba | exact best_beat (decide_eq_true e8) (decide_eq_true (by rw [e6]; exact Int32.not_le.mp c489)) (by omega) hba | exact best_stay (decide_eq_true e8) (decide_eq_false (by rw [e6]; exact Int32.not_lt.mpr c489)) (by omega) hba) (by intro j h; first | (cases h; omega) | exact hbo2 j h) (by intro j h; first | (cases h; omega) | exact hba2 j h) (by omega) (by omega) _ _ _ hP hD hS (lv_sub hl [0, 1, 10, 11, 12, 13, 14, 15, 16, 17, 18] rfl)
                                                      ·
                                                        exact absurd c415 (by decide)
                                                    ·
                                                      exact absurd c357 (by decide)
                                                ·
                                                  exact absurd c315 (by decide)
                                  ·
                                    exact absurd c233 (by decide)
                        ·
                          rcases bo with _ | b0 <;> rcases ba with _ | b1
                          ·
                            have hl : lv_has ls 19 [(10, .int (nI k)), (9, .int (1)), (8, .int (-101)), (7, .int (-101)), (6, .int (wt)), (5, .int (ag)), (4, .ref (q15)), (3, .ref (q11)), (2, .int (nI K)), (1, .int (nI N)), (0, .ref (v 0))] := hl
                            refine lv_aload_n hx hb dL_books_114 rfl (lv_at hl 10 rfl) ?_
                            refine lv_bipush (v := 27) hx hb dL_books_115 (by decide) ?_
                            refine lv_iload hx hb dL_books_117 (lv_at hl 0 rfl) ?_
                            refine lqSi (As := [.ref (v 0), .int (27), .int (nI k)]) (rest := []) ⟨hx, hb, hml, hown, hts⟩ (c_ask_isWaiting l hl9 D T aK aV v B O g ln un nx pl f0 f1 f2 k N K C nt hOI (by omega) _) (va_cwS 3 hts (gC gl_L_call__) rfl rfl rfl (by decide +kernel) ⟨Nat.le_of_ble_eq_true rfl, Nat.le_of_ble_eq_true rfl⟩) (Foc.pre [(q15, .inl (T 0, 5, .inl fa)), (q11, .inl (T 0, 4, .inl fc))] _ _) hC hNC hK hP hD hS hA rfl hl.1 rfl (Nat.le_of_ble_eq_true rfl) ⟨by show _ ≤ 2200; omega, by show _ ≤ 13200; omega⟩ dL_books_119 (fun H locs hP hD hS => ?_)
                            have hP : va_P D vwCl ((q15, .inl (T 0, 5, .inl fa)) :: (q11, .inl (T 0, 4, .inl fc)) :: WIN T v B O g ln un nx pl f0 f1 f2) H := hP
                            have hD : va_D A ((q15, .inl (T 0, 5, .inl fa)) :: (q11, .inl (T 0, 4, .inl fc)) :: WIN T v B O g ln un nx pl f0 f1 f2) := hD
                            refine endI (r := 1) (by rw [e8]; decide) ?_
                            refine lv_istore (lv' := [(11, .int (1)), (10, .int (nI k)), (9, .int (1)), (8, .int (-101)), (7, .int (-101)), (6, .int (wt)), (5, .int (ag)), (4, .ref (q15)), (3, .ref (q11)), (2, .int (nI K)), (1, .int (nI N)), (0, .ref (v 0))]) hx hb dL_books_122 hl (by decide) rfl (fun ls hl => ?_)
                            refine lv_aload_n hx hb dL_books_124 rfl (lv_at hl 11 rfl) ?_
                            refine lv_bipush (v := 28) hx hb dL_books_125 (by decide) ?_
                            refine lv_iload hx hb dL_books_127 (lv_at hl 1 rfl) ?_
                            refine lqSi (As := [.ref (v 0), .int (28), .int (nI k)]) (rest := []) ⟨hx, hb, hml, hown, hts⟩ (c_ask_isAnswered l hl9 D T aK aV v B O g ln un nx pl f0 f1 f2 k N K C nt hOI (by omega) _) (va_cwS 3 hts (gC gl_L_call__) rfl rfl rfl (by decide +kernel) ⟨Nat.le_of_ble_eq_true rfl, Nat.le_of_ble_eq_true rfl⟩) (Foc.pre [(q15, .inl (T 0, 5, .inl fa)), (q11, .inl (T 0, 4, .inl fc))] _ _) hC hNC hK hP hD hS hA rfl hl.1 rfl (Nat.le_of_ble_eq_true rfl) ⟨by show _ ≤ 2200; omega, by show _ ≤ 13200; omega⟩ dL_books_129 (fun H locs hP hD hS => ?_)
                            have hP : va_P D vwCl ((q15, .inl (T 0, 5, .inl fa)) :: (q11, .inl (T 0, 4, .inl fc)) :: WIN T v B O g ln un nx pl f0 f1 f2) H := hP
                            have hD : va_D A ((q15, .inl (T 0, 5, .inl fa)) :: (q11, .inl (T 0, 4, .inl fc)) :: WIN T v B O g ln un nx pl f0 f1 f2) := hD
                            refine endI (r := 0) (by rw [e8]; decide) ?_
                            refine lv_istore (lv' := [(12, .int (0)), (11, .int (1)), (10, .int (nI k)), (9, .int (1)), (8, .int (-101)), (7, .int (-101)), (6, .int (wt)), (5, .int (ag)), (4, .ref (q15)), (3, .ref (q11)), (2, .int (nI K)), (1, .int (nI N)), (0, .ref (v 0))]) hx hb dL_books_132 hl (by decide) rfl (fun ls hl => ?_)
                            refine lv_aload_n hx hb dL_books_134 rfl (lv_at hl 12 rfl) ?_
                            refine lv_bipush (v := 29) hx hb dL_books_135 (by decide) ?_
                            refine lv_iload hx hb dL_books_137 (lv_at hl 2 rfl) ?_
                            refine lqSi (As := [.ref (v 0), .int (29), .int (nI k)]) (rest := []) ⟨hx, hb, hml, hown, hts⟩ (c_ask_isDismissed l hl9 D T aK aV v B O g ln un nx pl f0 f1 f2 k N K C nt hOI (by omega) _) (va_cwS 3 hts (gC gl_L_call__) rfl rfl rfl (by decide +kernel) ⟨Nat.le_of_ble_eq_true rfl, Nat.le_of_ble_eq_true rfl⟩) (Foc.pre [(q15, .inl (T 0, 5, .inl fa)), (q11, .inl (T 0, 4, .inl fc))] _ _) hC hNC hK hP hD hS hA rfl hl.1 rfl (Nat.le_of_ble_eq_true rfl) ⟨by show _ ≤ 2200; omega, by show _ ≤ 13200; omega⟩ dL_books_139 (fun H locs hP hD hS => ?_)
                            have hP : va_P D vwCl ((q15, .inl (T 0, 5, .inl fa)) :: (q11, .inl (T 0, 4, .inl fc)) :: WIN T v B O g ln un nx pl f0 f1 f2) H := hP
                            have hD : va_D A ((q15, .inl (T 0, 5, .inl fa)) :: (q11, .inl (T 0, 4, .inl fc)) :: WIN T v B O g ln un nx pl f0 f1 f2) := hD
                            refine endI (r := 0) (by rw [e8]; decide) ?_
                            refine lv_istore (lv' := [(13, .int (0)), (12, .int (0)), (11, .int (1)), (10, .int (nI k)), (9, .int (1)), (8, .int (-101)), (7, .int (-101)), (6, .int (wt)), (5, .int (ag)), (4, .ref (q15)), (3, .ref (q11)), (2, .int (nI K)), (1, .int (nI N)), (0, .ref (v 0))]) hx hb dL_books_142 hl (by decide) rfl (fun ls hl => ?_)
                            refine lv_aload_n hx hb dL_books_144 rfl (lv_at hl 13 rfl) ?_
                            refine lv_bipush (v := 30) hx hb dL_books_145 (by decide) ?_
                            refine lv_iload hx hb dL_books_147 (lv_at hl 3 rfl) ?_
                            refine lqSi (As := [.ref (v 0), .int (30), .int (nI k)]) (rest := []) ⟨hx, hb, hml, hown, hts⟩ (c_ask_isGivenUp l hl9 D T aK aV v B O g ln un nx pl f0 f1 f2 k N K C nt hOI (by omega) _) (va_cwS 3 hts (gC gl_L_call__) rfl rfl rfl (by decide +kernel) ⟨Nat.le_of_ble_eq_true rfl, Nat.le_of_ble_eq_true rfl⟩) (Foc.pre [(q15, .inl (T 0, 5, .inl fa)), (q11, .inl (T 0, 4, .inl fc))] _ _) hC hNC hK hP hD hS hA rfl hl.1 rfl (Nat.le_of_ble_eq_true rfl) ⟨by show _ ≤ 2200; omega, by show _ ≤ 13200; omega⟩ dL_books_149 (fun H locs hP hD hS => ?_)
                            have hP : va_P D vwCl ((q15, .inl (T 0, 5, .inl fa)) :: (q11, .inl (T 0, 4, .inl fc)) :: WIN T v B O g ln un nx pl f0 f1 f2) H := hP
                            have hD : va_D A ((q15, .inl (T 0, 5, .inl fa)) :: (q11, .inl (T 0, 4, .inl fc)) :: WIN T v B O g ln un nx pl f0 f1 f2) := hD
                            refine endI (r := 0) (by rw [e8]; decide) ?_
                            refine lv_istore (lv' := [(14, .int (0)), (13, .int (0)), (12, .int (0)), (11, .int (1)), (10, .int (nI k)), (9, .int (1)), (8, .int (-101)), (7, .int (-101)), (6, .int (wt)), (5, .int (ag)), (4, .ref (q15)), (3, .ref (q11)), (2, .int (nI K)), (1, .int (nI N)), (0, .ref (v 0))]) hx hb dL_books_152 hl (by decide) rfl (fun ls hl => ?_)
                            refine lv_aload_n hx hb dL_books_154 rfl (lv_at hl 14 rfl) ?_
                            refine lv_bipush (v := 26) hx hb dL_books_155 (by decide) ?_
                            refine lv_iload hx hb dL_books_157 (lv_at hl 4 rfl) ?_
                            refine lqSi (As := [.ref (v 0), .int (26), .int (nI k)]) (rest := []) ⟨hx, hb, hml, hown, hts⟩ (c_ask_filedIn l hl9 D T aK aV v B O g ln un nx pl f0 f1 f2 k N K C nt hOI (by omega) _) (va_cwS 3 hts (gC gl_L_call__) rfl rfl rfl (by decide +kernel) ⟨Nat.le_of_ble_eq_true rfl, Nat.le_of_ble_eq_true rfl⟩) (Foc.pre [(q15, .inl (T 0, 5, .inl fa)), (q11, .inl (T 0, 4, .inl fc))] _ _) hC hNC hK hP hD hS hA rfl hl.1 rfl (Nat.le_of_ble_eq_true rfl) ⟨by show _ ≤ 2200; omega, by show _ ≤ 13200; omega⟩ dL_books_159 (fun H locs hP hD hS => ?_)
                            have hP : va_P D vwCl ((q15, .inl (T 0, 5, .inl fa)) :: (q11, .inl (T 0, 4, .inl fc)) :: WIN T v B O g ln un nx pl f0 f1 f2) H := hP
                            have hD : va_D A ((q15, .inl (T 0, 5, .inl fa)) :: (q11, .inl (T 0, 4, .inl fc)) :: WIN T v B O g ln un nx pl f0 f1 f2) := hD
                            refine endI (r := nI ff) (e7) ?_
                            refine lv_istore (lv' := [(15, .int (nI ff)), (14, .int (0)), (13, .int (0)), (12, .int (0)), (11, .int (1)), (10, .int (nI k)), (9, .int (1)), (8, .int (-101)), (7, .int (-101)), (6, .int (wt)), (5, .int (ag)), (4, .ref (q15)), (3, .ref (q11)), (2, .int (nI K)), (1, .int (nI N)), (0, .ref (v 0))]) hx hb dL_books_162 hl (by decide) rfl (fun ls hl => ?_)
                            refine lv_aload_n hx hb dL_books_164 rfl (lv_at hl 15 rfl) ?_
                            refine lv_bipush (v := 31) hx hb dL_books_165 (by decide) ?_
                            refine lv_iload hx hb dL_books_167 (lv_at hl 5 rfl) ?_
                            refine lqSi (As := [.ref (v 0), .int (31), .int (nI k)]) (rest := []) ⟨hx, hb, hml, hown, hts⟩ (c_ask_closedIn l hl9 D T aK aV v B O g ln un nx pl f0 f1 f2 k N K C nt hOI (by omega) _) (va_cwS 3 hts (gC gl_L_call__) rfl rfl rfl (by decide +kernel) ⟨Nat.le_of_ble_eq_true rfl, Nat.le_of_ble_eq_true rfl⟩) (Foc.pre [(q15, .inl (T 0, 5, .inl fa)), (q11, .inl (T 0, 4, .inl fc))] _ _) hC hNC hK hP hD hS hA rfl hl.1 rfl (Nat.le_of_ble_eq_true rfl) ⟨by show _ ≤ 2200; omega, by show _ ≤ 13200; omega⟩ dL_books_169 (fun H locs hP hD hS => ?_)
                            have hP : va_P D vwCl ((q15, .inl (T 0, 5, .inl fa)) :: (q11, .inl (T 0, 4, .inl fc)) :: WIN T v B O g ln un nx pl f0 f1 f2) H := hP
                            have hD : va_D A ((q15, .inl (T 0, 5, .inl fa)) :: (q11, .inl (T 0, 4, .inl fc)) :: WIN T v B O g ln un nx pl f0 f1 f2) := hD
                            refine endI (r := -101) (if_pos e8) ?_
                            refine lv_istore (lv' := [(16, .int (-101)), (15, .int (nI ff)), (14, .int (0)), (13, .int (0)), (12, .int (0)), (11, .int (1)), (10, .int (nI k)), (9, .int (1)), (8, .int (-101)), (7, .int (-101)), (6, .int (wt)), (5, .int (ag)), (4, .ref (q15)), (3, .ref (q11)), (2, .int (nI K)), (1, .int (nI N)), (0, .ref (v 0))]) hx hb dL_books_172 hl (by decide) rfl (fun ls hl => ?_)
                            refine lv_aload_n hx hb dL_books_174 rfl (lv_at hl 16 rfl) ?_
                            refine lv_bipush (v := 32) hx hb dL_books_175 (by decide) ?_
                            refine lv_iload hx hb dL_books_177 (lv_at hl 6 rfl) ?_
                            refine lqSi (As := [.ref (v 0), .int (32), .int (nI k)]) (rest := []) ⟨hx, hb, hml, hown, hts⟩ (c_ask_clerkOf l hl9 D T aK aV v B O g ln un nx pl f0 f1 f2 k N K C nt hOI (by omega) _) (va_cwS 3 hts (gC gl_L_call__) rfl rfl rfl (by decide +kernel) ⟨Nat.le_of_ble_eq_true rfl, Nat.le_of_ble_eq_true rfl⟩) (Foc.pre [(q15, .inl (T 0, 5, .inl fa)), (q11, .inl (T 0, 4, .inl fc))] _ _) hC hNC hK hP hD hS hA rfl hl.1 rfl (Nat.le_of_ble_eq_true rfl) ⟨by show _ ≤ 2200; omega, by show _ ≤ 13200; omega⟩ dL_books_179 (fun H locs hP hD hS => ?_)
                            have hP : va_P D vwCl ((q15, .inl (T 0, 5, .inl fa)) :: (q11, .inl (T 0, 4, .inl fc)) :: WIN T v B O g ln un nx pl f0 f1 f2) H := hP
                            have hD : va_D A ((q15, .inl (T 0, 5, .inl fa)) :: (q11, .inl (T 0, 4, .inl fc)) :: WIN T v B O g ln un nx pl f0 f1 f2) := hD
                            refine endI (r := -101) (if_pos e10) ?_
                            refine lv_istore (lv' := [(17, .int (-101)), (16, .int (-101)), (15, .int (nI ff)), (14, .int (0)), (13, .int (0)), (12, .int (0)), (11, .int (1)), (10, .int (nI k)), (9, .int (1)), (8, .int (-101)), (7, .int (-101)), (6, .int (wt)), (5, .int (ag)), (4, .ref (q15)), (3, .ref (q11)), (2, .int (nI K)), (1, .int (nI N)), (0, .ref (v 0))]) hx hb dL_books_182 hl (by decide) rfl (fun ls hl => ?_)
                            refine lv_aload_n hx hb dL_books_184 rfl (lv_at hl 17 rfl) ?_
                            refine lv_bipush (v := 25) hx hb dL_books_185 (by decide) ?_
                            refine lv_iload hx hb dL_books_187 (lv_at hl 7 rfl) ?_
                            refine lqSi (As := [.ref (v 0), .int (25), .int (nI k)]) (rest := []) ⟨hx, hb, hml, hown, hts⟩ (c_ask_angerOf l hl9 D T aK aV v B O g ln un nx pl f0 f1 f2 k N K C nt hOI (by omega) _) (va_cwS 3 hts (gC gl_L_call__) rfl rfl rfl (by decide +kernel) ⟨Nat.le_of_ble_eq_true rfl, Nat.le_of_ble_eq_true rfl⟩) (Foc.pre [(q15, .inl (T 0, 5, .inl fa)), (q11, .inl (T 0, 4, .inl fc))] _ _) hC hNC hK hP hD hS hA rfl hl.1 rfl (Nat.le_of_ble_eq_true rfl) ⟨by show _ ≤ 2200; omega, by show _ ≤ 13200; omega⟩ dL_books_189 (fun H locs hP hD hS => ?_)
                            have hP : va_P D vwCl ((q15, .inl (T 0, 5, .inl fa)) :: (q11, .inl (T 0, 4, .inl fc)) :: WIN T v B O g ln un nx pl f0 f1 f2) H := hP
                            have hD : va_D A ((q15, .inl (T 0, 5, .inl fa)) :: (q11, .inl (T 0, 4, .inl fc)) :: WIN T v B O g ln un nx pl f0 f1 f2) := hD
                            refine endI (r := nI aa) (e6) ?_
                            refine lv_istore (lv' := [(18, .int (nI aa)), (17, .int (-101)), (16, .int (-101)), (15, .int (nI ff)), (14, .int (0)), (13, .int (0)), (12, .int (0)), (11, .int (1)), (10, .int (nI k)), (9, .int (1)), (8, .int (-101)), (7, .int (-101)), (6, .int (wt)), (5, .int (ag)), (4, .ref (q15)), (3, .ref (q11)), (2, .int (nI K)), (1, .int (nI N)), (0, .ref (v 0))]) hx hb dL_books_192 hl (by decide) rfl (fun ls hl => ?_)
                            refine lv_iload hx hb dL_books_194 (lv_at hl 7 rfl) ?_
                            refine lv_iload hx hb dL_books_196 (lv_at hl 6 rfl) ?_
                            refine lv_iadd hx hb dL_books_198 ?_
                            refine endI (r := 1) (by decide) ?_
                            refine lv_iload hx hb dL_books_199 (lv_at hl 5 rfl) ?_
                            refine lv_iadd hx hb dL_books_201 ?_
                            refine endI (r := 1) (by decide) ?_
                            refine lv_iload hx hb dL_books_202 (lv_at hl 4 rfl) ?_
                            refine lv_iadd hx hb dL_books_204 ?_
                            refine endI (r := 1) (by decide) ?_
                            refine lv_iconst (v := 1) hx hb dL_books_205 (by decide) ?_
                            refine lv_icmp_ne (tgt := 391) hx hb dL_books_206 (by decide) (fun c206 => ?_) (fun c206 => ?_)
                            ·
                              exact absurd c206 (by decide)
                            ·
                              refine lv_iload hx hb dL_books_209 (lv_at hl 3 rfl) ?_
                              refine lv_aload_n hx hb dL_books_211 rfl (lv_at hl 18 rfl) ?_
                              refine rdV (As := []) (rest := [.int (nI ff)]) ⟨hx, hb, hml, hown, hts⟩ (c_X9_night l D T v B O g ln un nx pl f0 f1 f2 ) (cwV 0 hts (gC gl_X9_night) rfl rfl rfl (by decide +kernel) ⟨Nat.le_of_ble_eq_true rfl, Nat.le_of_ble_eq_true rfl⟩) hK (wTail (x := [(q15, .inl (T 0, 5, .inl fa)), (q11, .inl (T 0, 4, .inl fc))]) hP hD).1 0 rfl rfl rfl hl.1 rfl (Nat.le_of_ble_eq_true rfl) ⟨by show _ ≤ 2200; omega, by show _ ≤ 13200; omega⟩ dL_books_212 ?_
                              refine endI (r := nI nt) (hn) ?_
                              refine lv_icmp_gt (tgt := 391) hx hb dL_books_215 (by decide) (fun c215 => ?_) (fun c215 => ?_)
                              ·
                                have c215 : nt < ff := (nI_ltI (a := nt) (b := ff) (by omega) (by omega)).mp c215
                                exfalso; omega
                              ·
                                have c215 : ¬ nt < ff := fun h9 => c215 ((nI_ltI (a := nt) (b := ff) (by omega) (by omega)).mpr h9)
                                refine lv_iload hx hb dL_books_218 (lv_at hl 0 rfl) ?_
                                refine lv_if_le (tgt := 391) hx hb dL_books_220 (by decide) (fun c220 => ?_) (fun c220 => ?_)
                                ·
                                  have c220 : aa ≤ 0 := (nI_leI (a := aa) (b := 0) (by omega) (by omega)).mp c220
                                  exfalso; omega
                                ·
                                  have c220 : ¬ aa ≤ 0 := fun h9 => c220 ((nI_leI (a := aa) (b := 0) (by omega) (by omega)).mpr h9)
                                  refine lv_iload hx hb dL_books_223 (lv_at hl 0 rfl) ?_
                                  refine lv_bipush (v := 10) hx hb dL_books_225 (by decide) ?_
                                  refine lv_icmp_ge (tgt := 391) hx hb dL_books_227 (by decide) (fun c227 => ?_) (fun c227 => ?_)
                                  ·
                                    have c227 : 10 ≤ aa := (nI_leI (a := 10) (b := aa) (by omega) (by omega)).mp c227
                                    exfalso; omega
                                  ·
                                    have c227 : ¬ 10 ≤ aa := fun h9 => c227 ((nI_leI (a := 10) (b := aa) (by omega) (by omega)).mpr h9)
                                    refine lv_iload hx hb dL_books_230 (lv_at hl 7 rfl) ?_
                                    refine lv_iconst (v := 1) hx hb dL_books_232 (by decide) ?_
                                    refine lv_icmp_ne (tgt := 258) hx hb dL_books_233 (by decide) (fun c233 => ?_) (fun c233 => ?_)
                                    ·
                                      exact absurd c233 (by decide)
                                    ·
                                      refine lv_iload hx hb dL_books_236 (lv_at hl 2 rfl) ?_
                                      refine lv_bipush (v := -101) hx hb dL_books_238 (by decide) ?_
                                      refine lv_icmp_ne (tgt := 391) hx hb dL_books_240 (by decide) (fun c240 => ?_) (fun c240 => ?_)
                                      ·
                                        exact absurd c240 (by decide)
                                      ·
                                        refine lv_aload_n hx hb dL_books_243 rfl (lv_at hl 18 rfl) ?_
                                        refine rdV (As := []) (rest := []) ⟨hx, hb, hml, hown, hts⟩ (c_X9_night l D T v B O g ln un nx pl f0 f1 f2 ) (cwV 0 hts (gC gl_X9_night) rfl rfl rfl (by decide +kernel) ⟨Nat.le_of_ble_eq_true rfl, Nat.le_of_ble_eq_true rfl⟩) hK (wTail (x := [(q15, .inl (T 0, 5, .inl fa)), (q11, .inl (T 0, 4, .inl fc))]) hP hD).1 0 rfl rfl rfl hl.1 rfl (Nat.le_of_ble_eq_true rfl) ⟨by show _ ≤ 2200; omega, by show _ ≤ 13200; omega⟩ dL_books_244 ?_
                                        refine endI (r := nI nt) (hn) ?_
                                        refine lv_iload hx hb dL_books_247 (lv_at hl 3 rfl) ?_
                                        refine lv_isub hx hb dL_books_249 ?_
                                        refine endI (r := nI (nt - ff)) (pk_sub (a := nt) (b := ff) (by omega)) ?_
                                        refine lv_bipush (v := 56) hx hb dL_books_250 (by decide) ?_
                                        refine lv_icmp_ge (tgt := 391) hx hb dL_books_252 (by decide) (fun c252 => ?_) (fun c252 => ?_)
                                        ·
                                          have c252 : 56 ≤ (nt - ff) := (nI_leI (a := 56) (b := (nt - ff)) (by omega) (by omega)).mp c252
                                          exfalso; omega
                                        ·
                                          have c252 : ¬ 56 ≤ (nt - ff) := fun h9 => c252 ((nI_leI (a := 56) (b := (nt - ff)) (by omega) (by omega)).mpr h9)
                                          refine lv_goto (tgt := 284) hx hb dL_books_255 (by decide) ?_
                                          refine lv_iload hx hb dL_books_284 (lv_at hl 1 rfl) ?_
                                          refine lv_bipush (v := -101) hx hb dL_books_286 (by decide) ?_
                                          refine lv_icmp_ne (tgt := 295) hx hb dL_books_288 (by decide) (fun c288 => ?_) (fun c288 => ?_)
                                          ·
                                            exact absurd c288 (by decide)
                                          ·
                                            refine lv_iconst (v := 1) hx hb dL_books_291 (by decide) ?_
                                            refine lv_goto (tgt := 296) hx hb dL_books_292 (by decide) ?_
                                            refine lv_iload hx hb dL_books_296 (lv_at hl 7 rfl) ?_
                                            refine lv_iload hx hb dL_books_298 (lv_at hl 4 rfl) ?_
                                            refine lv_iadd hx hb dL_books_300 ?_
                                            refine endI (r := 1) (by decide) ?_
                                            refine lv_iconst (v := 1) hx hb dL_books_301 (by decide) ?_
                                            refine lv_icmp_ne (tgt := 309) hx hb dL_books_302 (by decide) (fun c302 => ?_) (fun c302 => ?_)
                                            ·
                                              exact absurd c302 (by decide)
                                            ·
                                              refine lv_iconst (v := 1) hx hb dL_books_305 (by decide) ?_
                                              refine lv_goto (tgt := 310) hx hb dL_books_306 (by decide) ?_
                                              refine lv_icmp_ne (tgt := 391) hx hb dL_books_310 (by decide) (fun c310 => ?_) (fun c310 => ?_)
                                              ·
                                                exact absurd c310 (by decide)
                                              ·
                                                refine lv_iload hx hb dL_books_313 (lv_at hl 5 rfl) ?_
                                                refine lv_if_eq (tgt := 328) hx hb dL_books_315 (by decide) (fun c315 => ?_) (fun c315 => ?_)
                                                ·
                                                  refine lv_aload_n hx hb dL_books_328 rfl (lv_at hl 18 rfl) ?_
                                                  refine lv_bipush (v := 33) hx hb dL_books_329 (by decide) ?_
                                                  refine lv_aload_n hx hb dL_books_331 rfl (lv_at hl 18 rfl) ?_
                                                  refine lv_bipush (v := 23) hx hb dL_books_332 (by decide) ?_
                                                  refine lv_iload hx hb dL_books_334 (lv_at hl 8 rfl) ?_
                                                  refine lqSi (As := [.ref (v 0), .int (23), .int (nI k)]) (rest := [.int (33), .ref (v 0)]) ⟨hx, hb, hml, hown, hts⟩ (c_ask_personOf l hl9 D T aK aV v B O g ln un nx pl f0 f1 f2 k N K C nt hOI (by omega) _) (va_cwS 3 hts (gC gl_L_call__) rfl rfl rfl (by decide +kernel) ⟨Nat.le_of_ble_eq_true rfl, Nat.le_of_ble_eq_true rfl⟩) (Foc.pre [(q15, .inl (T 0, 5, .inl fa)), (q11, .inl (T 0, 4, .inl fc))] _ _) hC hNC hK hP hD hS hA rfl hl.1 rfl (Nat.le_of_ble_eq_true rfl) ⟨by show _ ≤ 2200; omega, by show _ ≤ 13200; omega⟩ dL_books_336 (fun H locs hP hD hS => ?_)
                                                  have hP : va_P D vwCl ((q15, .inl (T 0, 5, .inl fa)) :: (q11, .inl (T 0, 4, .inl fc)) :: WIN T v B O g ln un nx pl f0 f1 f2) H := hP
                                                  have hD : va_D A ((q15, .inl (T 0, 5, .inl fa)) :: (q11, .inl (T 0, 4, .inl fc)) :: WIN T v B O g ln un nx pl f0 f1 f2) := hD
                                                  refine endI (r := nI pp) (e4) ?_
                                                  refine lv_aload_n hx hb dL_books_339 rfl (lv_at hl 18 rfl) ?_
                                                  refine lv_bipush (v := 24) hx hb dL_books_340 (by decide) ?_
                                                  refine lv_iload hx hb dL_books_342 (lv_at hl 8 rfl) ?_
                                                  refine lqSi (As := [.ref (v 0), .int (24), .int (nI k)]) (rest := [.int (nI pp), .int (33), .ref (v 0)]) ⟨hx, hb, hml, hown, hts⟩ (c_ask_sortOf l hl9 D T aK aV v B O g ln un nx pl f0 f1 f2 k N K C nt hOI (by omega) _) (va_cwS 3 hts (gC gl_L_call__) rfl rfl rfl (by decide +kernel) ⟨Nat.le_of_ble_eq_true rfl, Nat.le_of_ble_eq_true rfl⟩) (Foc.pre [(q15, .inl (T 0, 5, .inl fa)), (q11, .inl (T 0, 4, .inl fc))] _ _) hC hNC hK hP hD hS hA rfl hl.1 rfl (Nat.le_of_ble_eq_true rfl) ⟨by show _ ≤ 2200; omega, by show _ ≤ 13200; omega⟩ dL_books_344 (fun H locs hP hD hS => ?_)
                                                  have hP : va_P D vwCl ((q15, .inl (T 0, 5, .inl fa)) :: (q11, .inl (T 0, 4, .inl fc)) :: WIN T v B O g ln un nx pl f0 f1 f2) H := hP
                                                  have hD : va_D A ((q15, .inl (T 0, 5, .inl fa)) :: (q11, .inl (T 0, 4, .inl fc)) :: WIN T v B O g ln un nx pl f0 f1 f2) := hD
                                                  refine endI (r := nI qq) (e5) ?_
                                                  refine lqSi (As := [.ref (v 0), .int (33), .int (nI pp), .int (nI qq)]) (rest := []) ⟨hx, hb, hml, hown, hts⟩ (c_ask_waitingOf l hl9 D T aK aV v B O g ln un nx pl f0 f1 f2 (nI pp) (nI qq) N K C nt hOI (rg_99 (by omega)) (rg_3 (by omega)) _) (va_cwS 4 hts (gC gl_L_call_) rfl rfl rfl (by decide +kernel) ⟨Nat.le_of_ble_eq_true rfl, Nat.le_of_ble_eq_true rfl⟩) (Foc.pre [(q15, .inl (T 0, 5, .inl fa)), (q11, .inl (T 0, 4, .inl fc))] _ _) hC hNC hK hP hD hS hA rfl hl.1 rfl (Nat.le_of_ble_eq_true rfl) ⟨by show _ ≤ 2200; omega, by show _ ≤ 13200; omega⟩ dL_books_347 (fun H locs hP hD hS => ?_)
                                                  have hP : va_P D vwCl ((q15, .inl (T 0, 5, .inl fa)) :: (q11, .inl (T 0, 4, .inl fc)) :: WIN T v B O g ln un nx pl f0 f1 f2) H := hP
                                                  have hD : va_D A ((q15, .inl (T 0, 5, .inl fa)) :: (q11, .inl (T 0, 4, .inl fc)) :: WIN T v B O g ln un nx pl f0 f1 f2) := hD
                                                  refine endI (r := nI k) (by rw [← e4, ← e5, find_wait hOV (by omega) e8]; rfl) ?_
                                                  refine lv_bipush (v := -104) hx hb dL_books_350 (by decide) ?_
                                                  refine lv_icmp_eq (tgt := 391) hx hb dL_books_352 (by decide) (fun c352 => ?_) (fun c352 => ?_)
                                                  ·
                                                    exact absurd c352 (nI_nneg (by omega) (by decide))
                                                  ·
                                                    refine lv_iload hx hb dL_books_355 (lv_at hl 7 rfl) ?_
                                                    refine lv_if_eq (tgt := 387) hx hb dL_books_357 (by decide) (fun c357 => ?_) (fun c357 => ?_)
                                                    ·
                                                      exact absurd c357 (by decide)
                                                    ·
                                                      refine lv_aload_n hx hb dL_books_360 rfl (lv_at hl 18 rfl) ?_
                                                      refine lv_bipush (v := 33) hx hb dL_books_361 (by decide) ?_
                                                      refine lv_aload_n hx hb dL_books_363 rfl (lv_at hl 18 rfl) ?_
                                                      refine lv_bipush (v := 23) hx hb dL_books_364 (by decide) ?_
                                                      refine lv_iload hx hb dL_books_366 (lv_at hl 8 rfl) ?_
                                                      refine lqSi (As := [.ref (v 0), .int (23), .int (nI k)]) (rest := [.int (33), .ref (v 0)]) ⟨hx, hb, hml, hown, hts⟩ (c_ask_personOf l hl9 D T aK aV v B O g ln un nx pl f0 f1 f2 k N K C nt hOI (by omega) _) (va_cwS 3 hts (gC gl_L_call__) rfl rfl rfl (by decide +kernel) ⟨Nat.le_of_ble_eq_true rfl, Nat.le_of_ble_eq_true rfl⟩) (Foc.pre [(q15, .inl (T 0, 5, .inl fa)), (q11, .inl (T 0, 4, .inl fc))] _ _) hC hNC hK hP hD hS hA rfl hl.1 rfl (Nat.le_of_ble_eq_true rfl) ⟨by show _ ≤ 2200; omega, by show _ ≤ 13200; omega⟩ dL_books_368 (fun H locs hP hD hS => ?_)
                                                      have hP : va_P D vwCl ((q15, .inl (T 0, 5, .inl fa)) :: (q11, .inl (T 0, 4, .inl fc)) :: WIN T v B O g ln un nx pl f0 f1 f2) H := hP
                                                      have hD : va_D A ((q15, .inl (T 0, 5, .inl fa)) :: (q11, .inl (T 0, 4, .inl fc)) :: WIN T v B O g ln un nx pl f0 f1 f2) := hD
                                                      refine endI (r := nI pp) (e4) ?_
                                                      refine lv_aload_n hx hb dL_books_371 rfl (lv_at hl 18 rfl) ?_
                                                      refine lv_bipush (v := 24) hx hb dL_books_372 (by decide) ?_
                                                      refine lv_iload hx hb dL_books_374 (lv_at hl 8 rfl) ?_
                                                      refine lqSi (As := [.ref (v 0), .int (24), .int (nI k)]) (rest := [.int (nI pp), .int (33), .ref (v 0)]) ⟨hx, hb, hml, hown, hts⟩ (c_ask_sortOf l hl9 D T aK aV v B O g ln un nx pl f0 f1 f2 k N K C nt hOI (by omega) _) (va_cwS 3 hts (gC gl_L_call__) rfl rfl rfl (by decide +kernel) ⟨Nat.le_of_ble_eq_true rfl, Nat.le_of_ble_eq_true rfl⟩) (Foc.pre [(q15, .inl (T 0, 5, .inl fa)), (q11, .inl (T 0, 4, .inl fc))] _ _) hC hNC hK hP hD hS hA rfl hl.1 rfl (Nat.le_of_ble_eq_true rfl) ⟨by show _ ≤ 2200; omega, by show _ ≤ 13200; omega⟩ dL_books_376 (fun H locs hP hD hS => ?_)
                                                      have hP : va_P D vwCl ((q15, .inl (T 0, 5, .inl fa)) :: (q11, .inl (T 0, 4, .inl fc)) :: WIN T v B O g ln un nx pl f0 f1 f2) H := hP
                                                      have hD : va_D A ((q15, .inl (T 0, 5, .inl fa)) :: (q11, .inl (T 0, 4, .inl fc)) :: WIN T v B O g ln un nx pl f0 f1 f2) := hD
                                                      refine endI (r := nI qq) (e5) ?_
                                                      refine lqSi (As := [.ref (v 0), .int (33), .int (nI pp), .int (nI qq)]) (rest := []) ⟨hx, hb, hml, hown, hts⟩ (c_ask_waitingOf l hl9 D T aK aV v B O g ln un nx pl f0 f1 f2 (nI pp) (nI qq) N K C nt hOI (rg_99 (by omega)) (rg_3 (by omega)) _) (va_cwS 4 hts (gC gl_L_call_) rfl rfl rfl (by decide +kernel) ⟨Nat.le_of_ble_eq_true rfl, Nat.le_of_ble_eq_true rfl⟩) (Foc.pre [(q15, .inl (T 0, 5, .inl fa)), (q11, .inl (T 0, 4, .inl fc))] _ _) hC hNC hK hP hD hS hA rfl hl.1 rfl (Nat.le_of_ble_eq_true rfl) ⟨by show _ ≤ 2200; omega, by show _ ≤ 13200; omega⟩ dL_books_379 (fun H locs hP hD hS => ?_)
                                                      have hP : va_P D vwCl ((q15, .inl (T 0, 5, .inl fa)) :: (q11, .inl (T 0, 4, .inl fc)) :: WIN T v B O g ln un nx pl f0 f1 f2) H := hP
                                                      have hD : va_D A ((q15, .inl (T 0, 5, .inl fa)) :: (q11, .inl (T 0, 4, .inl fc)) :: WIN T v B O g ln un nx pl f0 f1 f2) := hD
                                                      refine endI (r := nI k) (by rw [← e4, ← e5, find_wait hOV (by omega) e8]; rfl) ?_
                                                      refine lv_iload hx hb dL_books_382 (lv_at hl 8 rfl) ?_
                                                      refine lv_icmp_ne (tgt := 391) hx hb dL_books_384 (by decide) (fun c384 => ?_) (fun c384 => ?_)
                                                      ·
                                                        exact absurd rfl c384
                                                      ·
                                                        refine lv_iconst (v := 1) hx hb dL_books_387 (by decide) ?_
                                                        refine lv_goto (tgt := 392) hx hb dL_books_388 (by decide) ?_
                                                        refine lv_istore (lv' := [(9, .int (1)), (18, .int (nI aa)), (17, .int (-101)), (16, .int (-101)), (15, .int (nI ff)), (14, .int (0)), (13, .int (0)), (12, .int (0)), (11, .int (1)), (10, .int (nI k)), (8, .int (-101)), (7, .int (-101)), (6, .int (wt)), (5, .int (ag)), (4, .ref (q15)), (3, .ref (q11)), (2, .int (nI K)), (1, .int (nI N)), (0, .ref (v 0))]) hx hb dL_books_392 hl (by decide) rfl (fun ls hl => ?_)
                                                        refine lv_aload_n hx hb dL_books_394 rfl (lv_at hl 15 rfl) ?_
                                                        refine lv_iload hx hb dL_books_395 (lv_at hl 7 rfl) ?_
                                                        refine lv_iconst (v := 2) hx hb dL_books_397 (by decide) ?_
                                                        refine lv_iload hx hb dL_books_398 (lv_at hl 6 rfl) ?_
                                                        refine lv_imul hx hb dL_books_400 ?_
                                                        refine endI (r := 0) (by decide) ?_
                                                        refine lv_iadd hx hb dL_books_401 ?_
                                                        refine endI (r := 0) (by decide) ?_
                                                        refine lv_iconst (v := 3) hx hb dL_books_402 (by decide) ?_
                                                        refine lv_iload hx hb dL_books_403 (lv_at hl 5 rfl) ?_
                                                        refine lv_imul hx hb dL_books_405 ?_
                                                        refine endI (r := 0) (by decide) ?_
                                                        refine lv_iadd hx hb dL_books_406 ?_
                                                        refine endI (r := 0) (by decide) ?_
                                                        refine lv_dup2_11 hx hb dL_books_407 rfl rfl ?_
                                                        refine aldI hx hb hK hP 1 0 rfl rfl (0) rfl (by omega) (by decide) dL_books_408 ?_
                                                        refine lv_iconst (v := 1) hx hb dL_books_409 (by decide) ?_
                                                        refine lv_iadd hx hb dL_books_410 ?_
                                                        refine astI hx hb hK hP hD hS 1 0 rfl rfl (0) rfl (by omega) (by decide) dL_books_411 (fun H locs hP hD hS => ?_)
                                                        have hP : va_P D vwCl ((q15, .inl (T 0, 5, .inl fa)) :: (q11, .inl (T 0, 4, .inl (va_up fc 0 ((fc 0) + 1)))) :: WIN T v B O g ln un nx pl f0 f1 f2) H := hP
                                                        have hD : va_D A ((q15, .inl (T 0, 5, .inl fa)) :: (q11, .inl (T 0, 4, .inl (va_up fc 0 ((fc 0) + 1)))) :: WIN T v B O g ln un nx pl f0 f1 f2) := hD
                                                        refine lv_iload hx hb dL_books_412 (lv_at hl 7 rfl) ?_
                                                        refine lv_iconst (v := 1) hx hb dL_books_414 (by decide) ?_
                                                        refine lv_icmp_ne (tgt := 444) hx hb dL_books_415 (by decide) (fun c415 => ?_) (fun c415 => ?_)
                                                        ·
                                                          refine lv_iload hx hb dL_books_444 (lv_at hl 8 rfl) ?_
                                                          refine lv_if_ne (tgt := 452) hx hb dL_books_446 (by decide) (fun c446 => ?_) (fun c446 => ?_)
                                                          ·
                                                            refine lv_iload hx hb dL_books_452 (lv_at hl 11 rfl) ?_
                                                            refine lv_if_lt (tgt := 470) hx hb dL_books_454 (by decide) (fun c454 => ?_) (fun c454 => ?_)
                                                            ·
                                                              refine lv_iload hx hb dL_books_470 (lv_at hl 9 rfl) ?_
                                                              refine lv_istore (lv' := [(7, .int (nI k)), (9, .int (1)), (18, .int (nI aa)), (17, .int (-101)), (16, .int (-101)), (15, .int (nI ff)), (14, .int (0)), (13, .int (0)), (12, .int (0)), (11, .int (1)), (10, .int (nI k)), (8, .int (-101)), (6, .int (wt)), (5, .int (ag)), (4, .ref (q15)), (3, .ref (q11)), (2, .int (nI K)), (1, .int (nI N)), (0, .ref (v 0))]) hx hb dL_books_472 hl (by decide) rfl (fun ls hl => ?_)
                                                              refine lv_iload hx hb dL_books_474 (lv_at hl 11 rfl) ?_
                                                              refine lv_if_lt (tgt := 492) hx hb dL_books_476 (by decide) (fun c476 => ?_) (fun c476 => ?_)
                                                              ·
                                                                refine lv_iload hx hb dL_books_492 (lv_at hl 10 rfl) ?_
                                                                refine lv_istore (lv' := [(8, .int (nI k)), (7, .int (nI k)), (9, .int (1)), (18, .int (nI aa)), (17, .int (-101)), (16, .int (-101)), (15, .int (nI ff)), (14, .int (0)), (13, .int (0)), (12, .int (0)), (11, .int (1)), (10, .int (nI k)), (6, .int (wt)), (5, .int (ag)), (4, .ref (q15)), (3, .ref (q11)), (2, .int (nI K)), (1, .int (nI N)), (0, .ref (v 0))]) hx hb dL_books_494 hl (by decide) rfl (fun ls hl => ?_)
                                                                refine lv_iinc (v := nI (k + 1)) (lv' := [(10, .int (nI (k + 1))), (8, .int (nI k)), (7, .int (nI k)), (9, .int (1)), (18, .int (nI aa)), (17, .int (-101)), (16, .int (-101)), (15, .int (nI ff)), (14, .int (0)), (13, .int (0)), (12, .int (0)), (11, .int (1)), (6, .int (wt)), (5, .int (ag)), (4, .ref (q15)), (3, .ref (q11)), (2, .int (nI K)), (1, .int (nI N)), (0, .ref (v 0))]) hx hb dL_books_496 hl (k := 11) rfl (nI_1 _) (by decide) rfl (fun ls hl => ?_)
                                                                refine lv_goto (tgt := 103) hx hb dL_books_499 (by decide) ?_
                                                                exact ih103 (k + 1) (va_up fc 0 ((fc 0) + 1)) fa ag wt (some k) (some k) _ _ (by omega) (by omega) (by first | exact cnt_upd 0 (by omega) e8 (by omega) hfc | exact cnt_upd 1 (by omega) e8 (by omega) hfc | exact cnt_upd 2 (by omega) e8 (by omega) hfc | exact cnt_upd 3 (by omega) e8 (by omega) hfc) (by first | exact ans_yes e8 e10 hjj hK2 (by omega) hfa | exact ans_no (by rw [e8]; decide) (by omega) hfa) (by first | exact sum_yes e8 e6 (by omega) hag | exact sum_no (by rw [e8]; decide) (by omega) hag) (by first | exact sum_yes e8 (by rw [e9, e7]; exact pk_sub (by omega)) (by omega) hwt | exact sum_no (by rw [e8]; decide) (by omega) hwt) (by first | exact best_no (decide_eq_false (by rw [e8]; decide)) (by omega) hbo | exact best_new (decide_eq_true e8) (by omega) hbo | exact best_beat (decide_eq_true e8) (decide_eq_true (by rw [e7]; exact Int32.not_le.mp c467)) (by omega) hbo | exact best_stay (decide_eq_true e8) (decide_eq_false (by rw [e7]; exact Int32.not_lt.mpr c467)) (by omega) hbo) (by first | exact best_no (decide_eq_false (by rw [e8]; decide)) (by omega) hba | exact best_new (decide_eq_true e8) (by omega) hba | exact best_beat (decide_eq_true e8) (decide_eq_true (by rw [e6]; exact Int32.not_le.mp c489)) (by omega) hba | exact best_stay (decide_eq_true e8) (decide_eq_false (by rw [e6]; exact Int32.not_lt.mpr c489)) (by omega) hba) (by intro j h; first | (cases h; omega) | exact hbo2 j h) (by intro j h; first | (cases h; omega) | exact hba2 j h) (by omega) (by omega) _ _ _ hP hD hS (lv_sub hl [0, 3, 1, 2, 12, 13, 14, 15, 16, 17, 18] rfl)
                                                              ·
                                                                exact absurd c476 (by decide)
                                                            ·
                                                              exact absurd c454 (by decide)
                                                          ·
                                                            exact absurd c446 (by decide)
                                                        ·
                                                          exact absurd c415 (by decide)
                                                ·
                                                  exact absurd c315 (by decide)
                          ·
                            have hb1 := hba2 b1 rfl
                            have hl : lv_has ls 19 [(10, .int (nI k)), (9, .int (1)), (8, .int (nI b1)), (7, .int (-101)), (6, .int (wt)), (5, .int (ag)), (4, .ref (q15)), (3, .ref (q11)), (2, .int (nI K)), (1, .int (nI N)), (0, .ref (v 0))] := hl
                            refine lv_aload_n hx hb dL_books_114 rfl (lv_at hl 10 rfl) ?_
                            refine lv_bipush (v := 27) hx hb dL_books_115 (by decide) ?_
                            refine lv_iload hx hb dL_books_117 (lv_at hl 0 rfl) ?_
                            refine lqSi (As := [.ref (v 0), .int (27), .int (nI k)]) (rest := []) ⟨hx, hb, hml, hown, hts⟩ (c_ask_isWaiting l hl9 D T aK aV v B O g ln un nx pl f0 f1 f2 k N K C nt hOI (by omega) _) (va_cwS 3 hts (gC gl_L_call__) rfl rfl rfl (by decide +kernel) ⟨Nat.le_of_ble_eq_true rfl, Nat.le_of_ble_eq_true rfl⟩) (Foc.pre [(q15, .inl (T 0, 5, .inl fa)), (q11, .inl (T 0, 4, .inl fc))] _ _) hC hNC hK hP hD hS hA rfl hl.1 rfl (Nat.le_of_ble_eq_true rfl) ⟨by show _ ≤ 2200; omega, by show _ ≤ 13200; omega⟩ dL_books_119 (fun H locs hP hD hS => ?_)
                            have hP : va_P D vwCl ((q15, .inl (T 0, 5, .inl fa)) :: (q11, .inl (T 0, 4, .inl fc)) :: WIN T v B O g ln un nx pl f0 f1 f2) H := hP
                            have hD : va_D A ((q15, .inl (T 0, 5, .inl fa)) :: (q11, .inl (T 0, 4, .inl fc)) :: WIN T v B O g ln un nx pl f0 f1 f2) := hD
                            refine endI (r := 1) (by rw [e8]; decide) ?_
                            refine lv_istore (lv' := [(11, .int (1)), (10, .int (nI k)), (9, .int (1)), (8, .int (nI b1)), (7, .int (-101)), (6, .int (wt)), (5, .int (ag)), (4, .ref (q15)), (3, .ref (q11)), (2, .int (nI K)), (1, .int (nI N)), (0, .ref (v 0))]) hx hb dL_books_122 hl (by decide) rfl (fun ls hl => ?_)
                            refine lv_aload_n hx hb dL_books_124 rfl (lv_at hl 11 rfl) ?_
                            refine lv_bipush (v := 28) hx hb dL_books_125 (by decide) ?_
                            refine lv_iload hx hb dL_books_127 (lv_at hl 1 rfl) ?_
                            refine lqSi (As := [.ref (v 0), .int (28), .int (nI k)]) (rest := []) ⟨hx, hb, hml, hown, hts⟩ (c_ask_isAnswered l hl9 D T aK aV v B O g ln un nx pl f0 f1 f2 k N K C nt hOI (by omega) _) (va_cwS 3 hts (gC gl_L_call__) rfl rfl rfl (by decide +kernel) ⟨Nat.le_of_ble_eq_true rfl, Nat.le_of_ble_eq_true rfl⟩) (Foc.pre [(q15, .inl (T 0, 5, .inl fa)), (q11, .inl (T 0, 4, .inl fc))] _ _) hC hNC hK hP hD hS hA rfl hl.1 rfl (Nat.le_of_ble_eq_true rfl) ⟨by show _ ≤ 2200; omega, by show _ ≤ 13200; omega⟩ dL_books_129 (fun H locs hP hD hS => ?_)
                            have hP : va_P D vwCl ((q15, .inl (T 0, 5, .inl fa)) :: (q11, .inl (T 0, 4, .inl fc)) :: WIN T v B O g ln un nx pl f0 f1 f2) H := hP
                            have hD : va_D A ((q15, .inl (T 0, 5, .inl fa)) :: (q11, .inl (T 0, 4, .inl fc)) :: WIN T v B O g ln un nx pl f0 f1 f2) := hD
                            refine endI (r := 0) (by rw [e8]; decide) ?_
                            refine lv_istore (lv' := [(12, .int (0)), (11, .int (1)), (10, .int (nI k)), (9, .int (1)), (8, .int (nI b1)), (7, .int (-101)), (6, .int (wt)), (5, .int (ag)), (4, .ref (q15)), (3, .ref (q11)), (2, .int (nI K)), (1, .int (nI N)), (0, .ref (v 0))]) hx hb dL_books_132 hl (by decide) rfl (fun ls hl => ?_)
                            refine lv_aload_n hx hb dL_books_134 rfl (lv_at hl 12 rfl) ?_
                            refine lv_bipush (v := 29) hx hb dL_books_135 (by decide) ?_
                            refine lv_iload hx hb dL_books_137 (lv_at hl 2 rfl) ?_
                            refine lqSi (As := [.ref (v 0), .int (29), .int (nI k)]) (rest := []) ⟨hx, hb, hml, hown, hts⟩ (c_ask_isDismissed l hl9 D T aK aV v B O g ln un nx pl f0 f1 f2 k N K C nt hOI (by omega) _) (va_cwS 3 hts (gC gl_L_call__) rfl rfl rfl (by decide +kernel) ⟨Nat.le_of_ble_eq_true rfl, Nat.le_of_ble_eq_true rfl⟩) (Foc.pre [(q15, .inl (T 0, 5, .inl fa)), (q11, .inl (T 0, 4, .inl fc))] _ _) hC hNC hK hP hD hS hA rfl hl.1 rfl (Nat.le_of_ble_eq_true rfl) ⟨by show _ ≤ 2200; omega, by show _ ≤ 13200; omega⟩ dL_books_139 (fun H locs hP hD hS => ?_)
                            have hP : va_P D vwCl ((q15, .inl (T 0, 5, .inl fa)) :: (q11, .inl (T 0, 4, .inl fc)) :: WIN T v B O g ln un nx pl f0 f1 f2) H := hP
                            have hD : va_D A ((q15, .inl (T 0, 5, .inl fa)) :: (q11, .inl (T 0, 4, .inl fc)) :: WIN T v B O g ln un nx pl f0 f1 f2) := hD
                            refine endI (r := 0) (by rw [e8]; decide) ?_
                            refine lv_istore (lv' := [(13, .int (0)), (12, .int (0)), (11, .int (1)), (10, .int (nI k)), (9, .int (1)), (8, .int (nI b1)), (7, .int (-101)), (6, .int (wt)), (5, .int (ag)), (4, .ref (q15)), (3, .ref (q11)), (2, .int (nI K)), (1, .int (nI N)), (0, .ref (v 0))]) hx hb dL_books_142 hl (by decide) rfl (fun ls hl => ?_)
                            refine lv_aload_n hx hb dL_books_144 rfl (lv_at hl 13 rfl) ?_
                            refine lv_bipush (v := 30) hx hb dL_books_145 (by decide) ?_
                            refine lv_iload hx hb dL_books_147 (lv_at hl 3 rfl) ?_
                            refine lqSi (As := [.ref (v 0), .int (30), .int (nI k)]) (rest := []) ⟨hx, hb, hml, hown, hts⟩ (c_ask_isGivenUp l hl9 D T aK aV v B O g ln un nx pl f0 f1 f2 k N K C nt hOI (by omega) _) (va_cwS 3 hts (gC gl_L_call__) rfl rfl rfl (by decide +kernel) ⟨Nat.le_of_ble_eq_true rfl, Nat.le_of_ble_eq_true rfl⟩) (Foc.pre [(q15, .inl (T 0, 5, .inl fa)), (q11, .inl (T 0, 4, .inl fc))] _ _) hC hNC hK hP hD hS hA rfl hl.1 rfl (Nat.le_of_ble_eq_true rfl) ⟨by show _ ≤ 2200; omega, by show _ ≤ 13200; omega⟩ dL_books_149 (fun H locs hP hD hS => ?_)
                            have hP : va_P D vwCl ((q15, .inl (T 0, 5, .inl fa)) :: (q11, .inl (T 0, 4, .inl fc)) :: WIN T v B O g ln un nx pl f0 f1 f2) H := hP
                            have hD : va_D A ((q15, .inl (T 0, 5, .inl fa)) :: (q11, .inl (T 0, 4, .inl fc)) :: WIN T v B O g ln un nx pl f0 f1 f2) := hD
                            refine endI (r := 0) (by rw [e8]; decide) ?_
                            refine lv_istore (lv' := [(14, .int (0)), (13, .int (0)), (12, .int (0)), (11, .int (1)), (10, .int (nI k)), (9, .int (1)), (8, .int (nI b1)), (7, .int (-101)), (6, .int (wt)), (5, .int (ag)), (4, .ref (q15)), (3, .ref (q11)), (2, .int (nI K)), (1, .int (nI N)), (0, .ref (v 0))]) hx hb dL_books_152 hl (by decide) rfl (fun ls hl => ?_)
                            refine lv_aload_n hx hb dL_books_154 rfl (lv_at hl 14 rfl) ?_
                            refine lv_bipush (v := 26) hx hb dL_books_155 (by decide) ?_
                            refine lv_iload hx hb dL_books_157 (lv_at hl 4 rfl) ?_
                            refine lqSi (As := [.ref (v 0), .int (26), .int (nI k)]) (rest := []) ⟨hx, hb, hml, hown, hts⟩ (c_ask_filedIn l hl9 D T aK aV v B O g ln un nx pl f0 f1 f2 k N K C nt hOI (by omega) _) (va_cwS 3 hts (gC gl_L_call__) rfl rfl rfl (by decide +kernel) ⟨Nat.le_of_ble_eq_true rfl, Nat.le_of_ble_eq_true rfl⟩) (Foc.pre [(q15, .inl (T 0, 5, .inl fa)), (q11, .inl (T 0, 4, .inl fc))] _ _) hC hNC hK hP hD hS hA rfl hl.1 rfl (Nat.le_of_ble_eq_true rfl) ⟨by show _ ≤ 2200; omega, by show _ ≤ 13200; omega⟩ dL_books_159 (fun H locs hP hD hS => ?_)
                            have hP : va_P D vwCl ((q15, .inl (T 0, 5, .inl fa)) :: (q11, .inl (T 0, 4, .inl fc)) :: WIN T v B O g ln un nx pl f0 f1 f2) H := hP
                            have hD : va_D A ((q15, .inl (T 0, 5, .inl fa)) :: (q11, .inl (T 0, 4, .inl fc)) :: WIN T v B O g ln un nx pl f0 f1 f2) := hD
                            refine endI (r := nI ff) (e7) ?_
                            refine lv_istore (lv' := [(15, .int (nI ff)), (14, .int (0)), (13, .int (0)), (12, .int (0)), (11, .int (1)), (10, .int (nI k)), (9, .int (1)), (8, .int (nI b1)), (7, .int (-101)), (6, .int (wt)), (5, .int (ag)), (4, .ref (q15)), (3, .ref (q11)), (2, .int (nI K)), (1, .int (nI N)), (0, .ref (v 0))]) hx hb dL_books_162 hl (by decide) rfl (fun ls hl => ?_)
                            refine lv_aload_n hx hb dL_books_164 rfl (lv_at hl 15 rfl) ?_
                            refine lv_bipush (v := 31) hx hb dL_books_165 (by decide) ?_
                            refine lv_iload hx hb dL_books_167 (lv_at hl 5 rfl) ?_
                            refine lqSi (As := [.ref (v 0), .int (31), .int (nI k)]) (rest := []) ⟨hx, hb, hml, hown, hts⟩ (c_ask_closedIn l hl9 D T aK aV v B O g ln un nx pl f0 f1 f2 k N K C nt hOI (by omega) _) (va_cwS 3 hts (gC gl_L_call__) rfl rfl rfl (by decide +kernel) ⟨Nat.le_of_ble_eq_true rfl, Nat.le_of_ble_eq_true rfl⟩) (Foc.pre [(q15, .inl (T 0, 5, .inl fa)), (q11, .inl (T 0, 4, .inl fc))] _ _) hC hNC hK hP hD hS hA rfl hl.1 rfl (Nat.le_of_ble_eq_true rfl) ⟨by show _ ≤ 2200; omega, by show _ ≤ 13200; omega⟩ dL_books_169 (fun H locs hP hD hS => ?_)
                            have hP : va_P D vwCl ((q15, .inl (T 0, 5, .inl fa)) :: (q11, .inl (T 0, 4, .inl fc)) :: WIN T v B O g ln un nx pl f0 f1 f2) H := hP
                            have hD : va_D A ((q15, .inl (T 0, 5, .inl fa)) :: (q11, .inl (T 0, 4, .inl fc)) :: WIN T v B O g ln un nx pl f0 f1 f2) := hD
                            refine endI (r := -101) (if_pos e8) ?_
                            refine lv_istore (lv' := [(16, .int (-101)), (15, .int (nI ff)), (14, .int (0)), (13, .int (0)), (12, .int (0)), (11, .int (1)), (10, .int (nI k)), (9, .int (1)), (8, .int (nI b1)), (7, .int (-101)), (6, .int (wt)), (5, .int (ag)), (4, .ref (q15)), (3, .ref (q11)), (2, .int (nI K)), (1, .int (nI N)), (0, .ref (v 0))]) hx hb dL_books_172 hl (by decide) rfl (fun ls hl => ?_)
                            refine lv_aload_n hx hb dL_books_174 rfl (lv_at hl 16 rfl) ?_
                            refine lv_bipush (v := 32) hx hb dL_books_175 (by decide) ?_
                            refine lv_iload hx hb dL_books_177 (lv_at hl 6 rfl) ?_
                            refine lqSi (As := [.ref (v 0), .int (32), .int (nI k)]) (rest := []) ⟨hx, hb, hml, hown, hts⟩ (c_ask_clerkOf l hl9 D T aK aV v B O g ln un nx pl f0 f1 f2 k N K C nt hOI (by omega) _) (va_cwS 3 hts (gC gl_L_call__) rfl rfl rfl (by decide +kernel) ⟨Nat.le_of_ble_eq_true rfl, Nat.le_of_ble_eq_true rfl⟩) (Foc.pre [(q15, .inl (T 0, 5, .inl fa)), (q11, .inl (T 0, 4, .inl fc))] _ _) hC hNC hK hP hD hS hA rfl hl.1 rfl (Nat.le_of_ble_eq_true rfl) ⟨by show _ ≤ 2200; omega, by show _ ≤ 13200; omega⟩ dL_books_179 (fun H locs hP hD hS => ?_)
                            have hP : va_P D vwCl ((q15, .inl (T 0, 5, .inl fa)) :: (q11, .inl (T 0, 4, .inl fc)) :: WIN T v B O g ln un nx pl f0 f1 f2) H := hP
                            have hD : va_D A ((q15, .inl (T 0, 5, .inl fa)) :: (q11, .inl (T 0, 4, .inl fc)) :: WIN T v B O g ln un nx pl f0 f1 f2) := hD
                            refine endI (r := -101) (if_pos e10) ?_
                            refine lv_istore (lv' := [(17, .int (-101)), (16, .int (-101)), (15, .int (nI ff)), (14, .int (0)), (13, .int (0)), (12, .int (0)), (11, .int (1)), (10, .int (nI k)), (9, .int (1)), (8, .int (nI b1)), (7, .int (-101)), (6, .int (wt)), (5, .int (ag)), (4, .ref (q15)), (3, .ref (q11)), (2, .int (nI K)), (1, .int (nI N)), (0, .ref (v 0))]) hx hb dL_books_182 hl (by decide) rfl (fun ls hl => ?_)
                            refine lv_aload_n hx hb dL_books_184 rfl (lv_at hl 17 rfl) ?_
                            refine lv_bipush (v := 25) hx hb dL_books_185 (by decide) ?_
                            refine lv_iload hx hb dL_books_187 (lv_at hl 7 rfl) ?_
                            refine lqSi (As := [.ref (v 0), .int (25), .int (nI k)]) (rest := []) ⟨hx, hb, hml, hown, hts⟩ (c_ask_angerOf l hl9 D T aK aV v B O g ln un nx pl f0 f1 f2 k N K C nt hOI (by omega) _) (va_cwS 3 hts (gC gl_L_call__) rfl rfl rfl (by decide +kernel) ⟨Nat.le_of_ble_eq_true rfl, Nat.le_of_ble_eq_true rfl⟩) (Foc.pre [(q15, .inl (T 0, 5, .inl fa)), (q11, .inl (T 0, 4, .inl fc))] _ _) hC hNC hK hP hD hS hA rfl hl.1 rfl (Nat.le_of_ble_eq_true rfl) ⟨by show _ ≤ 2200; omega, by show _ ≤ 13200; omega⟩ dL_books_189 (fun H locs hP hD hS => ?_)
                            have hP : va_P D vwCl ((q15, .inl (T 0, 5, .inl fa)) :: (q11, .inl (T 0, 4, .inl fc)) :: WIN T v B O g ln un nx pl f0 f1 f2) H := hP
                            have hD : va_D A ((q15, .inl (T 0, 5, .inl fa)) :: (q11, .inl (T 0, 4, .inl fc)) :: WIN T v B O g ln un nx pl f0 f1 f2) := hD
                            refine endI (r := nI aa) (e6) ?_
                            refine lv_istore (lv' := [(18, .int (nI aa)), (17, .int (-101)), (16, .int (-101)), (15, .int (nI ff)), (14, .int (0)), (13, .int (0)), (12, .int (0)), (11, .int (1)), (10, .int (nI k)), (9, .int (1)), (8, .int (nI b1)), (7, .int (-101)), (6, .int (wt)), (5, .int (ag)), (4, .ref (q15)), (3, .ref (q11)), (2, .int (nI K)), (1, .int (nI N)), (0, .ref (v 0))]) hx hb dL_books_192 hl (by decide) rfl (fun ls hl => ?_)
                            refine lv_iload hx hb dL_books_194 (lv_at hl 7 rfl) ?_
                            refine lv_iload hx hb dL_books_196 (lv_at hl 6 rfl) ?_
                            refine lv_iadd hx hb dL_books_198 ?_
                            refine endI (r := 1) (by decide) ?_
                            refine lv_iload hx hb dL_books_199 (lv_at hl 5 rfl) ?_
                            refine lv_iadd hx hb dL_books_201 ?_
                            refine endI (r := 1) (by decide) ?_
                            refine lv_iload hx hb dL_books_202 (lv_at hl 4 rfl) ?_
                            refine lv_iadd hx hb dL_books_204 ?_
                            refine endI (r := 1) (by decide) ?_
                            refine lv_iconst (v := 1) hx hb dL_books_205 (by decide) ?_
                            refine lv_icmp_ne (tgt := 391) hx hb dL_books_206 (by decide) (fun c206 => ?_) (fun c206 => ?_)
                            ·
                              exact absurd c206 (by decide)
                            ·
                              refine lv_iload hx hb dL_books_209 (lv_at hl 3 rfl) ?_
                              refine lv_aload_n hx hb dL_books_211 rfl (lv_at hl 18 rfl) ?_
                              refine rdV (As := []) (rest := [.int (nI ff)]) ⟨hx, hb, hml, hown, hts⟩ (c_X9_night l D T v B O g ln un nx pl f0 f1 f2 ) (cwV 0 hts (gC gl_X9_night) rfl rfl rfl (by decide +kernel) ⟨Nat.le_of_ble_eq_true rfl, Nat.le_of_ble_eq_true rfl⟩) hK (wTail (x := [(q15, .inl (T 0, 5, .inl fa)), (q11, .inl (T 0, 4, .inl fc))]) hP hD).1 0 rfl rfl rfl hl.1 rfl (Nat.le_of_ble_eq_true rfl) ⟨by show _ ≤ 2200; omega, by show _ ≤ 13200; omega⟩ dL_books_212 ?_
                              refine endI (r := nI nt) (hn) ?_
                              refine lv_icmp_gt (tgt := 391) hx hb dL_books_215 (by decide) (fun c215 => ?_) (fun c215 => ?_)
                              ·
                                have c215 : nt < ff := (nI_ltI (a := nt) (b := ff) (by omega) (by omega)).mp c215
                                exfalso; omega
                              ·
                                have c215 : ¬ nt < ff := fun h9 => c215 ((nI_ltI (a := nt) (b := ff) (by omega) (by omega)).mpr h9)
                                refine lv_iload hx hb dL_books_218 (lv_at hl 0 rfl) ?_
                                refine lv_if_le (tgt := 391) hx hb dL_books_220 (by decide) (fun c220 => ?_) (fun c220 => ?_)
                                ·
                                  have c220 : aa ≤ 0 := (nI_leI (a := aa) (b := 0) (by omega) (by omega)).mp c220
                                  exfalso; omega
                                ·
                                  have c220 : ¬ aa ≤ 0 := fun h9 => c220 ((nI_leI (a := aa) (b := 0) (by omega) (by omega)).mpr h9)
                                  refine lv_iload hx hb dL_books_223 (lv_at hl 0 rfl) ?_
                                  refine lv_bipush (v := 10) hx hb dL_books_225 (by decide) ?_
                                  refine lv_icmp_ge (tgt := 391) hx hb dL_books_227 (by decide) (fun c227 => ?_) (fun c227 => ?_)
                                  ·
                                    have c227 : 10 ≤ aa := (nI_leI (a := 10) (b := aa) (by omega) (by omega)).mp c227
                                    exfalso; omega
                                  ·
                                    have c227 : ¬ 10 ≤ aa := fun h9 => c227 ((nI_leI (a := 10) (b := aa) (by omega) (by omega)).mpr h9)
                                    refine lv_iload hx hb dL_books_230 (lv_at hl 7 rfl) ?_
                                    refine lv_iconst (v := 1) hx hb dL_books_232 (by decide) ?_
                                    refine lv_icmp_ne (tgt := 258) hx hb dL_books_233 (by decide) (fun c233 => ?_) (fun c233 => ?_)
                                    ·
                                      exact absurd c233 (by decide)
                                    ·
                                      refine lv_iload hx hb dL_books_236 (lv_at hl 2 rfl) ?_
                                      refine lv_bipush (v := -101) hx hb dL_books_238 (by decide) ?_
                                      refine lv_icmp_ne (tgt := 391) hx hb dL_books_240 (by decide) (fun c240 => ?_) (fun c240 => ?_)
                                      ·
                                        exact absurd c240 (by decide)
                                      ·
                                        refine lv_aload_n hx hb dL_books_243 rfl (lv_at hl 18 rfl) ?_
                                        refine rdV (As := []) (rest := []) ⟨hx, hb, hml, hown, hts⟩ (c_X9_night l D T v B O g ln un nx pl f0 f1 f2 ) (cwV 0 hts (gC gl_X9_night) rfl rfl rfl (by decide +kernel) ⟨Nat.le_of_ble_eq_true rfl, Nat.le_of_ble_eq_true rfl⟩) hK (wTail (x := [(q15, .inl (T 0, 5, .inl fa)), (q11, .inl (T 0, 4, .inl fc))]) hP hD).1 0 rfl rfl rfl hl.1 rfl (Nat.le_of_ble_eq_true rfl) ⟨by show _ ≤ 2200; omega, by show _ ≤ 13200; omega⟩ dL_books_244 ?_
                                        refine endI (r := nI nt) (hn) ?_
                                        refine lv_iload hx hb dL_books_247 (lv_at hl 3 rfl) ?_
                                        refine lv_isub hx hb dL_books_249 ?_
                                        refine endI (r := nI (nt - ff)) (pk_sub (a := nt) (b := ff) (by omega)) ?_
                                        refine lv_bipush (v := 56) hx hb dL_books_250 (by decide) ?_
                                        refine lv_icmp_ge (tgt := 391) hx hb dL_books_252 (by decide) (fun c252 => ?_) (fun c252 => ?_)
                                        ·
                                          have c252 : 56 ≤ (nt - ff) := (nI_leI (a := 56) (b := (nt - ff)) (by omega) (by omega)).mp c252
                                          exfalso; omega
                                        ·
                                          have c252 : ¬ 56 ≤ (nt - ff) := fun h9 => c252 ((nI_leI (a := 56) (b := (nt - ff)) (by omega) (by omega)).mpr h9)
                                          refine lv_goto (tgt := 284) hx hb dL_books_255 (by decide) ?_
                                          refine lv_iload hx hb dL_books_284 (lv_at hl 1 rfl) ?_
                                          refine lv_bipush (v := -101) hx hb dL_books_286 (by decide) ?_
                                          refine lv_icmp_ne (tgt := 295) hx hb dL_books_288 (by decide) (fun c288 => ?_) (fun c288 => ?_)
                                          ·
                                            exact absurd c288 (by decide)
                                          ·
                                            refine lv_iconst (v := 1) hx hb dL_books_291 (by decide) ?_
                                            refine lv_goto (tgt := 296) hx hb dL_books_292 (by decide) ?_
                                            refine lv_iload hx hb dL_books_296 (lv_at hl 7 rfl) ?_
                                            refine lv_iload hx hb dL_books_298 (lv_at hl 4 rfl) ?_
                                            refine lv_iadd hx hb dL_books_300 ?_
                                            refine endI (r := 1) (by decide) ?_
                                            refine lv_iconst (v := 1) hx hb dL_books_301 (by decide) ?_
                                            refine lv_icmp_ne (tgt := 309) hx hb dL_books_302 (by decide) (fun c302 => ?_) (fun c302 => ?_)
                                            ·
                                              exact absurd c302 (by decide)
                                            ·
                                              refine lv_iconst (v := 1) hx hb dL_books_305 (by decide) ?_
                                              refine lv_goto (tgt := 310) hx hb dL_books_306 (by decide) ?_
                                              refine lv_icmp_ne (tgt := 391) hx hb dL_books_310 (by decide) (fun c310 => ?_) (fun c310 => ?_)
                                              ·
                                                exact absurd c310 (by decide)
                                              ·
                                                refine lv_iload hx hb dL_books_313 (lv_at hl 5 rfl) ?_
                                                refine lv_if_eq (tgt := 328) hx hb dL_books_315 (by decide) (fun c315 => ?_) (fun c315 => ?_)
                                                ·
                                                  refine lv_aload_n hx hb dL_books_328 rfl (lv_at hl 18 rfl) ?_
                                                  refine lv_bipush (v := 33) hx hb dL_books_329 (by decide) ?_
                                                  refine lv_aload_n hx hb dL_books_331 rfl (lv_at hl 18 rfl) ?_
                                                  refine lv_bipush (v := 23) hx hb dL_books_332 (by decide) ?_
                                                  refine lv_iload hx hb dL_books_334 (lv_at hl 8 rfl) ?_
                                                  refine lqSi (As := [.ref (v 0), .int (23), .int (nI k)]) (rest := [.int (33), .ref (v 0)]) ⟨hx, hb, hml, hown, hts⟩ (c_ask_personOf l hl9 D T aK aV v B O g ln un nx pl f0 f1 f2 k N K C nt hOI (by omega) _) (va_cwS 3 hts (gC gl_L_call__) rfl rfl rfl (by decide +kernel) ⟨Nat.le_of_ble_eq_true rfl, Nat.le_of_ble_eq_true rfl⟩) (Foc.pre [(q15, .inl (T 0, 5, .inl fa)), (q11, .inl (T 0, 4, .inl fc))] _ _) hC hNC hK hP hD hS hA rfl hl.1 rfl (Nat.le_of_ble_eq_true rfl) ⟨by show _ ≤ 2200; omega, by show _ ≤ 13200; omega⟩ dL_books_336 (fun H locs hP hD hS => ?_)
                                                  have hP : va_P D vwCl ((q15, .inl (T 0, 5, .inl fa)) :: (q11, .inl (T 0, 4, .inl fc)) :: WIN T v B O g ln un nx pl f0 f1 f2) H := hP
                                                  have hD : va_D A ((q15, .inl (T 0, 5, .inl fa)) :: (q11, .inl (T 0, 4, .inl fc)) :: WIN T v B O g ln un nx pl f0 f1 f2) := hD
                                                  refine endI (r := nI pp) (e4) ?_
                                                  refine lv_aload_n hx hb dL_books_339 rfl (lv_at hl 18 rfl) ?_
                                                  refine lv_bipush (v := 24) hx hb dL_books_340 (by decide) ?_
                                                  refine lv_iload hx hb dL_books_342 (lv_at hl 8 rfl) ?_
                                                  refine lqSi (As := [.ref (v 0), .int (24), .int (nI k)]) (rest := [.int (nI pp), .int (33), .ref (v 0)]) ⟨hx, hb, hml, hown, hts⟩ (c_ask_sortOf l hl9 D T aK aV v B O g ln un nx pl f0 f1 f2 k N K C nt hOI (by omega) _) (va_cwS 3 hts (gC gl_L_call__) rfl rfl rfl (by decide +kernel) ⟨Nat.le_of_ble_eq_true rfl, Nat.le_of_ble_eq_true rfl⟩) (Foc.pre [(q15, .inl (T 0, 5, .inl fa)), (q11, .inl (T 0, 4, .inl fc))] _ _) hC hNC hK hP hD hS hA rfl hl.1 rfl (Nat.le_of_ble_eq_true rfl) ⟨by show _ ≤ 2200; omega, by show _ ≤ 13200; omega⟩ dL_books_344 (fun H locs hP hD hS => ?_)
                                                  have hP : va_P D vwCl ((q15, .inl (T 0, 5, .inl fa)) :: (q11, .inl (T 0, 4, .inl fc)) :: WIN T v B O g ln un nx pl f0 f1 f2) H := hP
                                                  have hD : va_D A ((q15, .inl (T 0, 5, .inl fa)) :: (q11, .inl (T 0, 4, .inl fc)) :: WIN T v B O g ln un nx pl f0 f1 f2) := hD
                                                  refine endI (r := nI qq) (e5) ?_
                                                  refine lqSi (As := [.ref (v 0), .int (33), .int (nI pp), .int (nI qq)]) (rest := []) ⟨hx, hb, hml, hown, hts⟩ (c_ask_waitingOf l hl9 D T aK aV v B O g ln un nx pl f0 f1 f2 (nI pp) (nI qq) N K C nt hOI (rg_99 (by omega)) (rg_3 (by omega)) _) (va_cwS 4 hts (gC gl_L_call_) rfl rfl rfl (by decide +kernel) ⟨Nat.le_of_ble_eq_true rfl, Nat.le_of_ble_eq_true rfl⟩) (Foc.pre [(q15, .inl (T 0, 5, .inl fa)), (q11, .inl (T 0, 4, .inl fc))] _ _) hC hNC hK hP hD hS hA rfl hl.1 rfl (Nat.le_of_ble_eq_true rfl) ⟨by show _ ≤ 2200; omega, by show _ ≤ 13200; omega⟩ dL_books_347 (fun H locs hP hD hS => ?_)
                                                  have hP : va_P D vwCl ((q15, .inl (T 0, 5, .inl fa)) :: (q11, .inl (T 0, 4, .inl fc)) :: WIN T v B O g ln un nx pl f0 f1 f2) H := hP
                                                  have hD : va_D A ((q15, .inl (T 0, 5, .inl fa)) :: (q11, .inl (T 0, 4, .inl fc)) :: WIN T v B O g ln un nx pl f0 f1 f2) := hD
                                                  refine endI (r := nI k) (by rw [← e4, ← e5, find_wait hOV (by omega) e8]; rfl) ?_
                                                  refine lv_bipush (v := -104) hx hb dL_books_350 (by decide) ?_
                                                  refine lv_icmp_eq (tgt := 391) hx hb dL_books_352 (by decide) (fun c352 => ?_) (fun c352 => ?_)
                                                  ·
                                                    exact absurd c352 (nI_nneg (by omega) (by decide))
                                                  ·
                                                    refine lv_iload hx hb dL_books_355 (lv_at hl 7 rfl) ?_
                                                    refine lv_if_eq (tgt := 387) hx hb dL_books_357 (by decide) (fun c357 => ?_) (fun c357 => ?_)
                                                    ·
                                                      exact absurd c357 (by decide)
                                                    ·
                                                      refine lv_aload_n hx hb dL_books_360 rfl (lv_at hl 18 rfl) ?_
                                                      refine lv_bipush (v := 33) hx hb dL_books_361 (by decide) ?_
                                                      refine lv_aload_n hx hb dL_books_363 rfl (lv_at hl 18 rfl) ?_
                                                      refine lv_bipush (v := 23) hx hb dL_books_364 (by decide) ?_
                                                      refine lv_iload hx hb dL_books_366 (lv_at hl 8 rfl) ?_
                                                      refine lqSi (As := [.ref (v 0), .int (23), .int (nI k)]) (rest := [.int (33), .ref (v 0)]) ⟨hx, hb, hml, hown, hts⟩ (c_ask_personOf l hl9 D T aK aV v B O g ln un nx pl f0 f1 f2 k N K C nt hOI (by omega) _) (va_cwS 3 hts (gC gl_L_call__) rfl rfl rfl (by decide +kernel) ⟨Nat.le_of_ble_eq_true rfl, Nat.le_of_ble_eq_true rfl⟩) (Foc.pre [(q15, .inl (T 0, 5, .inl fa)), (q11, .inl (T 0, 4, .inl fc))] _ _) hC hNC hK hP hD hS hA rfl hl.1 rfl (Nat.le_of_ble_eq_true rfl) ⟨by show _ ≤ 2200; omega, by show _ ≤ 13200; omega⟩ dL_books_368 (fun H locs hP hD hS => ?_)
                                                      have hP : va_P D vwCl ((q15, .inl (T 0, 5, .inl fa)) :: (q11, .inl (T 0, 4, .inl fc)) :: WIN T v B O g ln un nx pl f0 f1 f2) H := hP
                                                      have hD : va_D A ((q15, .inl (T 0, 5, .inl fa)) :: (q11, .inl (T 0, 4, .inl fc)) :: WIN T v B O g ln un nx pl f0 f1 f2) := hD
                                                      refine endI (r := nI pp) (e4) ?_
                                                      refine lv_aload_n hx hb dL_books_371 rfl (lv_at hl 18 rfl) ?_
                                                      refine lv_bipush (v := 24) hx hb dL_books_372 (by decide) ?_
                                                      refine lv_iload hx hb dL_books_374 (lv_at hl 8 rfl) ?_
                                                      refine lqSi (As := [.ref (v 0), .int (24), .int (nI k)]) (rest := [.int (nI pp), .int (33), .ref (v 0)]) ⟨hx, hb, hml, hown, hts⟩ (c_ask_sortOf l hl9 D T aK aV v B O g ln un nx pl f0 f1 f2 k N K C nt hOI (by omega) _) (va_cwS 3 hts (gC gl_L_call__) rfl rfl rfl (by decide +kernel) ⟨Nat.le_of_ble_eq_true rfl, Nat.le_of_ble_eq_true rfl⟩) (Foc.pre [(q15, .inl (T 0, 5, .inl fa)), (q11, .inl (T 0, 4, .inl fc))] _ _) hC hNC hK hP hD hS hA rfl hl.1 rfl (Nat.le_of_ble_eq_true rfl) ⟨by show _ ≤ 2200; omega, by show _ ≤ 13200; omega⟩ dL_books_376 (fun H locs hP hD hS => ?_)
                                                      have hP : va_P D vwCl ((q15, .inl (T 0, 5, .inl fa)) :: (q11, .inl (T 0, 4, .inl fc)) :: WIN T v B O g ln un nx pl f0 f1 f2) H := hP
                                                      have hD : va_D A ((q15, .inl (T 0, 5, .inl fa)) :: (q11, .inl (T 0, 4, .inl fc)) :: WIN T v B O g ln un nx pl f0 f1 f2) := hD
                                                      refine endI (r := nI qq) (e5) ?_
                                                      refine lqSi (As := [.ref (v 0), .int (33), .int (nI pp), .int (nI qq)]) (rest := []) ⟨hx, hb, hml, hown, hts⟩ (c_ask_waitingOf l hl9 D T aK aV v B O g ln un nx pl f0 f1 f2 (nI pp) (nI qq) N K C nt hOI (rg_99 (by omega)) (rg_3 (by omega)) _) (va_cwS 4 hts (gC gl_L_call_) rfl rfl rfl (by decide +kernel) ⟨Nat.le_of_ble_eq_true rfl, Nat.le_of_ble_eq_true rfl⟩) (Foc.pre [(q15, .inl (T 0, 5, .inl fa)), (q11, .inl (T 0, 4, .inl fc))] _ _) hC hNC hK hP hD hS hA rfl hl.1 rfl (Nat.le_of_ble_eq_true rfl) ⟨by show _ ≤ 2200; omega, by show _ ≤ 13200; omega⟩ dL_books_379 (fun H locs hP hD hS => ?_)
                                                      have hP : va_P D vwCl ((q15, .inl (T 0, 5, .inl fa)) :: (q11, .inl (T 0, 4, .inl fc)) :: WIN T v B O g ln un nx pl f0 f1 f2) H := hP
                                                      have hD : va_D A ((q15, .inl (T 0, 5, .inl fa)) :: (q11, .inl (T 0, 4, .inl fc)) :: WIN T v B O g ln un nx pl f0 f1 f2) := hD
                                                      refine endI (r := nI k) (by rw [← e4, ← e5, find_wait hOV (by omega) e8]; rfl) ?_
                                                      refine lv_iload hx hb dL_books_382 (lv_at hl 8 rfl) ?_
                                                      refine lv_icmp_ne (tgt := 391) hx hb dL_books_384 (by decide) (fun c384 => ?_) (fun c384 => ?_)
                                                      ·
                                                        exact absurd rfl c384
                                                      ·
                                                        refine lv_iconst (v := 1) hx hb dL_books_387 (by decide) ?_
                                                        refine lv_goto (tgt := 392) hx hb dL_books_388 (by decide) ?_
                                                        refine lv_istore (lv' := [(9, .int (1)), (18, .int (nI aa)), (17, .int (-101)), (16, .int (-101)), (15, .int (nI ff)), (14, .int (0)), (13, .int (0)), (12, .int (0)), (11, .int (1)), (10, .int (nI k)), (8, .int (nI b1)), (7, .int (-101)), (6, .int (wt)), (5, .int (ag)), (4, .ref (q15)), (3, .ref (q11)), (2, .int (nI K)), (1, .int (nI N)), (0, .ref (v 0))]) hx hb dL_books_392 hl (by decide) rfl (fun ls hl => ?_)
                                                        refine lv_aload_n hx hb dL_books_394 rfl (lv_at hl 15 rfl) ?_
                                                        refine lv_iload hx hb dL_books_395 (lv_at hl 7 rfl) ?_
                                                        refine lv_iconst (v := 2) hx hb dL_books_397 (by decide) ?_
                                                        refine lv_iload hx hb dL_books_398 (lv_at hl 6 rfl) ?_
                                                        refine lv_imul hx hb dL_books_400 ?_
                                                        refine endI (r := 0) (by decide) ?_
                                                        refine lv_iadd hx hb dL_books_401 ?_
                                                        refine endI (r := 0) (by decide) ?_
                                                        refine lv_iconst (v := 3) hx hb dL_books_402 (by decide) ?_
                                                        refine lv_iload hx hb dL_books_403 (lv_at hl 5 rfl) ?_
                                                        refine lv_imul hx hb dL_books_405 ?_
                                                        refine endI (r := 0) (by decide) ?_
                                                        refine lv_iadd hx hb dL_books_406 ?_
                                                        refine endI (r := 0) (by decide) ?_
                                                        refine lv_dup2_11 hx hb dL_books_407 rfl rfl ?_
                                                        refine aldI hx hb hK hP 1 0 rfl rfl (0) rfl (by omega) (by decide) dL_books_408 ?_
                                                        refine lv_iconst (v := 1) hx hb dL_books_409 (by decide) ?_
                                                        refine lv_iadd hx hb dL_books_410 ?_
                                                        refine astI hx hb hK hP hD hS 1 0 rfl rfl (0) rfl (by omega) (by decide) dL_books_411 (fun H locs hP hD hS => ?_)
                                                        have hP : va_P D vwCl ((q15, .inl (T 0, 5, .inl fa)) :: (q11, .inl (T 0, 4, .inl (va_up fc 0 ((fc 0) + 1)))) :: WIN T v B O g ln un nx pl f0 f1 f2) H := hP
                                                        have hD : va_D A ((q15, .inl (T 0, 5, .inl fa)) :: (q11, .inl (T 0, 4, .inl (va_up fc 0 ((fc 0) + 1)))) :: WIN T v B O g ln un nx pl f0 f1 f2) := hD
                                                        refine lv_iload hx hb dL_books_412 (lv_at hl 7 rfl) ?_
                                                        refine lv_iconst (v := 1) hx hb dL_books_414 (by decide) ?_
                                                        refine lv_icmp_ne (tgt := 444) hx hb dL_books_415 (by decide) (fun c415 => ?_) (fun c415 => ?_)
                                                        ·
                                                          refine lv_iload hx hb dL_books_444 (lv_at hl 8 rfl) ?_
                                                          refine lv_if_ne (tgt := 452) hx hb dL_books_446 (by decide) (fun c446 => ?_) (fun c446 => ?_)
                                                          ·
                                                            refine lv_iload hx hb dL_books_452 (lv_at hl 11 rfl) ?_
                                                            refine lv_if_lt (tgt := 470) hx hb dL_books_454 (by decide) (fun c454 => ?_) (fun c454 => ?_)
                                                            ·
                                                              refine lv_iload hx hb dL_books_470 (lv_at hl 9 rfl) ?_
                                                              refine lv_istore (lv' := [(7, .int (nI k)), (9, .int (1)), (18, .int (nI aa)), (17, .int (-101)), (16, .int (-101)), (15, .int (nI ff)), (14, .int (0)), (13, .int (0)), (12, .int (0)), (11, .int (1)), (10, .int (nI k)), (8, .int (nI b1)), (6, .int (wt)), (5, .int (ag)), (4, .ref (q15)), (3, .ref (q11)), (2, .int (nI K)), (1, .int (nI N)), (0, .ref (v 0))]) hx hb dL_books_472 hl (by decide) rfl (fun ls hl => ?_)
                                                              refine lv_iload hx hb dL_books_474 (lv_at hl 11 rfl) ?_
                                                              refine lv_if_lt (tgt := 492) hx hb dL_books_476 (by decide) (fun c476 => ?_) (fun c476 => ?_)
                                                              ·
                                                                have c476 : b1 < 0 := (nI_ltI (a := b1) (b := 0) (by omega) (by omega)).mp c476
                                                                exfalso; omega
                                                              ·
                                                                have c476 : ¬ b1 < 0 := fun h9 => c476 ((nI_ltI (a := b1) (b := 0) (by omega) (by omega)).mpr h9)
                                                                refine lv_iload hx hb dL_books_479 (lv_at hl 2 rfl) ?_
                                                                refine lv_aload_n hx hb dL_books_481 rfl (lv_at hl 18 rfl) ?_
                                                                refine lv_bipush (v := 25) hx hb dL_books_482 (by decide) ?_
                                                                refine lv_iload hx hb dL_books_484 (lv_at hl 11 rfl) ?_
                                                                refine lqSi (As := [.ref (v 0), .int (25), .int (nI b1)]) (rest := [.int (nI aa)]) ⟨hx, hb, hml, hown, hts⟩ (c_ask_angerOf l hl9 D T aK aV v B O g ln un nx pl f0 f1 f2 b1 N K C nt hOI (by omega) _) (va_cwS 3 hts (gC gl_L_call__) rfl rfl rfl (by decide +kernel) ⟨Nat.le_of_ble_eq_true rfl, Nat.le_of_ble_eq_true rfl⟩) (Foc.pre [(q15, .inl (T 0, 5, .inl fa)), (q11, .inl (T 0, 4, .inl (va_up fc 0 ((fc 0) + 1))))] _ _) hC hNC hK hP hD hS hA rfl hl.1 rfl (Nat.le_of_ble_eq_true rfl) ⟨by show _ ≤ 2200; omega, by show _ ≤ 13200; omega⟩ dL_books_486 (fun H locs hP hD hS => ?_)
                                                                have hP : va_P D vwCl ((q15, .inl (T 0, 5, .inl fa)) :: (q11, .inl (T 0, 4, .inl (va_up fc 0 ((fc 0) + 1)))) :: WIN T v B O g ln un nx pl f0 f1 f2) H := hP
                                                                have hD : va_D A ((q15, .inl (T 0, 5, .inl fa)) :: (q11, .inl (T 0, 4, .inl (va_up fc 0 ((fc 0) + 1)))) :: WIN T v B O g ln un nx pl f0 f1 f2) := hD
                                                                refine lv_icmp_le (tgt := 496) hx hb dL_books_489 (by decide) (fun c489 => ?_) (fun c489 => ?_)
                                                                ·
                                                                  refine lv_iinc (v := nI (k + 1)) (lv' := [(10, .int (nI (k + 1))), (7, .int (nI k)), (9, .int (1)), (18, .int (nI aa)), (17, .int (-101)), (16, .int (-101)), (15, .int (nI ff)), (14, .int (0)), (13, .int (0)), (12, .int (0)), (11, .int (1)), (8, .int (nI b1)), (6, .int (wt)), (5, .int (ag)), (4, .ref (q15)), (3, .ref (q11)), (2, .int (nI K)), (1, .int (nI N)), (0, .ref (v 0))]) hx hb dL_books_496 hl (k := 10) rfl (nI_1 _) (by decide) rfl (fun ls hl => ?_)
                                                                  refine lv_goto (tgt := 103) hx hb dL_books_499 (by decide) ?_
                                                                  exact ih103 (k + 1) (va_up fc 0 ((fc 0) + 1)) fa ag wt (some k) (some b1) _ _ (by omega) (by omega) (by first | exact cnt_upd 0 (by omega) e8 (by omega) hfc | exact cnt_upd 1 (by omega) e8 (by omega) hfc | exact cnt_upd 2 (by omega) e8 (by omega) hfc | exact cnt_upd 3 (by omega) e8 (by omega) hfc) (by first | exact ans_yes e8 e10 hjj hK2 (by omega) hfa | exact ans_no (by rw [e8]; decide) (by omega) hfa) (by first | exact sum_yes e8 e6 (by omega) hag | exact sum_no (by rw [e8]; decide) (by omega) hag) (by first | exact sum_yes e8 (by rw [e9, e7]; exact pk_sub (by omega)) (by omega) hwt | exact sum_no (by rw [e8]; decide) (by omega) hwt) (by first | exact best_no (decide_eq_false (by rw [e8]; decide)) (by omega) hbo | exact best_new (decide_eq_true e8) (by omega) hbo | exact best_beat (decide_eq_true e8) (decide_eq_true (by rw [e7]; exact Int32.not_le.mp c467)) (by omega) hbo | exact best_stay (decide_eq_true e8) (decide_eq_false (by rw [e7]; exact Int32.not_lt.mpr c467)) (by omega) hbo) (by first | exact best_no (decide_eq_false (by rw [e8]; decide)) (by omega) hba | exact best_new (decide_eq_true e8) (by omega) hba | exact best_beat (decide_eq_true e8) (decide_eq_true (by rw [e6]; exact Int32.not_le.mp c489)) (by omega) hba | exact best_stay (decide_eq_true e8) (decide_eq_false (by rw [e6]; exact Int32.not_lt.mpr c489)) (by omega) hba) (by intro j h; first | (cases h; omega) | exact hbo2 j h) (by intro j h; first | (cases h; omega) | exact hba2 j h) (by omega) (by omega) _ _ _ hP hD hS (lv_sub hl [0, 2, 11, 1, 12, 13, 14, 15, 16, 17, 18] rfl)
                                                                ·
                                                                  refine lv_iload hx hb dL_books_492 (lv_at hl 10 rfl) ?_
                                                                  refine lv_istore (lv' := [(8, .int (nI k)), (7, .int (nI k)), (9, .int (1)), (18, .int (nI aa)), (17, .int (-101)), (16, .int (-101)), (15, .int (nI ff)), (14, .int (0)), (13, .int (0)), (12, .int (0)), (11, .int (1)), (10, .int (nI k)), (6, .int (wt)), (5, .int (ag)), (4, .ref (q15)), (3, .ref (q11)), (2, .int (nI K)), (1, .int (nI N)), (0, .ref (v 0))]) hx hb dL_books_494 hl (by decide) rfl (fun ls hl => ?_)
                                                                  refine lv_iinc (v := nI (k + 1)) (lv' := [(10, .int (nI (k + 1))), (8, .int (nI k)), (7, .int (nI k)), (9, .int (1)), (18, .int (nI aa)), (17, .int (-101)), (16, .int (-101)), (15, .int (nI ff)), (14, .int (0)), (13, .int (0)), (12, .int (0)), (11, .int (1)), (6, .int (wt)), (5, .int (ag)), (4, .ref (q15)), (3, .ref (q11)), (2, .int (nI K)), (1, .int (nI N)), (0, .ref (v 0))]) hx hb dL_books_496 hl (k := 11) rfl (nI_1 _) (by decide) rfl (fun ls hl => ?_)
                                                                  refine lv_goto (tgt := 103) hx hb dL_books_499 (by decide) ?_
                                                                  exact ih103 (k + 1) (va_up fc 0 ((fc 0) + 1)) fa ag wt (some k) (some k) _ _ (by omega) (by omega) (by first | exact cnt_upd 0 (by omega) e8 (by omega) hfc | exact cnt_upd 1 (by omega) e8 (by omega) hfc | exact cnt_upd 2 (by omega) e8 (by omega) hfc | exact cnt_upd 3 (by omega) e8 (by omega) hfc) (by first | exact ans_yes e8 e10 hjj hK2 (by omega) hfa | exact ans_no (by rw [e8]; decide) (by omega) hfa) (by first | exact sum_yes e8 e6 (by omega) hag | exact sum_no (by rw [e8]; decide) (by omega) hag) (by first | exact sum_yes e8 (by rw [e9, e7]; exact pk_sub (by omega)) (by omega) hwt | exact sum_no (by rw [e8]; decide) (by omega) hwt) (by first | exact best_no (decide_eq_false (by rw [e8]; decide)) (by omega) hbo | exact best_new (decide_eq_true e8) (by omega) hbo | exact best_beat (decide_eq_true e8) (decide_eq_true (by rw [e7]; exact Int32.not_le.mp c467)) (by omega) hbo | exact best_stay (decide_eq_true e8) (decide_eq_false (by rw [e7]; exact Int32.not_lt.mpr c467)) (by omega) hbo) (by first | exact best_no (decide_eq_false (by rw [e8]; decide)) (by omega) hba | exact best_new (decide_eq_true e8) (by omega) hba | exact best_beat (decide_eq_true e8) (decide_eq_true (by rw [e6]; exact Int32.not_le.mp c489)) (by omega) hba | exact best_stay (decide_eq_true e8) (decide_eq_false (by rw [e6]; exact Int32.not_lt.mpr c489)) (by omega) hba) (by intro j h; first | (cases h; omega) | exact hbo2 j h) (by intro j h; first | (cases h; omega) | exact hba2 j h) (by omega) (by omega) _ _ _ hP hD hS (lv_sub hl [0, 3, 1, 2, 12, 13, 14, 15, 16, 17, 18] rfl)
                                                            ·
                                                              exact absurd c454 (by decide)
                                                          ·
                                                            exact absurd c446 (by decide)
                                                        ·
                                                          exact absurd c415 (by decide)
                                                ·
                                                  exact absurd c315 (by decide)
                          ·
                            have hb0 := hbo2 b0 rfl
                            have hl : lv_has ls 19 [(10, .int (nI k)), (9, .int (1)), (8, .int (-101)), (7, .int (nI b0)), (6, .int (wt)), (5, .int (ag)), (4, .ref (q15)), (3, .ref (q11)), (2, .int (nI K)), (1, .int (nI N)), (0, .ref (v 0))] := hl
                            refine lv_aload_n hx hb dL_books_114 rfl (lv_at hl 10 rfl) ?_
                            refine lv_bipush (v := 27) hx hb dL_books_115 (by decide) ?_
                            refine lv_iload hx hb dL_books_117 (lv_at hl 0 rfl) ?_
                            refine lqSi (As := [.ref (v 0), .int (27), .int (nI k)]) (rest := []) ⟨hx, hb, hml, hown, hts⟩ (c_ask_isWaiting l hl9 D T aK aV v B O g ln un nx pl f0 f1 f2 k N K C nt hOI (by omega) _) (va_cwS 3 hts (gC gl_L_call__) rfl rfl rfl (by decide +kernel) ⟨Nat.le_of_ble_eq_true rfl, Nat.le_of_ble_eq_true rfl⟩) (Foc.pre [(q15, .inl (T 0, 5, .inl fa)), (q11, .inl (T 0, 4, .inl fc))] _ _) hC hNC hK hP hD hS hA rfl hl.1 rfl (Nat.le_of_ble_eq_true rfl) ⟨by show _ ≤ 2200; omega, by show _ ≤ 13200; omega⟩ dL_books_119 (fun H locs hP hD hS => ?_)
                            have hP : va_P D vwCl ((q15, .inl (T 0, 5, .inl fa)) :: (q11, .inl (T 0, 4, .inl fc)) :: WIN T v B O g ln un nx pl f0 f1 f2) H := hP
                            have hD : va_D A ((q15, .inl (T 0, 5, .inl fa)) :: (q11, .inl (T 0, 4, .inl fc)) :: WIN T v B O g ln un nx pl f0 f1 f2) := hD
                            refine endI (r := 1) (by rw [e8]; decide) ?_
                            refine lv_istore (lv' := [(11, .int (1)), (10, .int (nI k)), (9, .int (1)), (8, .int (-101)), (7, .int (nI b0)), (6, .int (wt)), (5, .int (ag)), (4, .ref (q15)), (3, .ref (q11)), (2, .int (nI K)), (1, .int (nI N)), (0, .ref (v 0))]) hx hb dL_books_122 hl (by decide) rfl (fun ls hl => ?_)
                            refine lv_aload_n hx hb dL_books_124 rfl (lv_at hl 11 rfl) ?_
                            refine lv_bipush (v := 28) hx hb dL_books_125 (by decide) ?_
                            refine lv_iload hx hb dL_books_127 (lv_at hl 1 rfl) ?_
                            refine lqSi (As := [.ref (v 0), .int (28), .int (nI k)]) (rest := []) ⟨hx, hb, hml, hown, hts⟩ (c_ask_isAnswered l hl9 D T aK aV v B O g ln un nx pl f0 f1 f2 k N K C nt hOI (by omega) _) (va_cwS 3 hts (gC gl_L_call__) rfl rfl rfl (by decide +kernel) ⟨Nat.le_of_ble_eq_true rfl, Nat.le_of_ble_eq_true rfl⟩) (Foc.pre [(q15, .inl (T 0, 5, .inl fa)), (q11, .inl (T 0, 4, .inl fc))] _ _) hC hNC hK hP hD hS hA rfl hl.1 rfl (Nat.le_of_ble_eq_true rfl) ⟨by show _ ≤ 2200; omega, by show _ ≤ 13200; omega⟩ dL_books_129 (fun H locs hP hD hS => ?_)
                            have hP : va_P D vwCl ((q15, .inl (T 0, 5, .inl fa)) :: (q11, .inl (T 0, 4, .inl fc)) :: WIN T v B O g ln un nx pl f0 f1 f2) H := hP
                            have hD : va_D A ((q15, .inl (T 0, 5, .inl fa)) :: (q11, .inl (T 0, 4, .inl fc)) :: WIN T v B O g ln un nx pl f0 f1 f2) := hD
                            refine endI (r := 0) (by rw [e8]; decide) ?_
                            refine lv_istore (lv' := [(12, .int (0)), (11, .int (1)), (10, .int (nI k)), (9, .int (1)), (8, .int (-101)), (7, .int (nI b0)), (6, .int (wt)), (5, .int (ag)), (4, .ref (q15)), (3, .ref (q11)), (2, .int (nI K)), (1, .int (nI N)), (0, .ref (v 0))]) hx hb dL_books_132 hl (by decide) rfl (fun ls hl => ?_)
                            refine lv_aload_n hx hb dL_books_134 rfl (lv_at hl 12 rfl) ?_
                            refine lv_bipush (v := 29) hx hb dL_books_135 (by decide) ?_
                            refine lv_iload hx hb dL_books_137 (lv_at hl 2 rfl) ?_
                            refine lqSi (As := [.ref (v 0), .int (29), .int (nI k)]) (rest := []) ⟨hx, hb, hml, hown, hts⟩ (c_ask_isDismissed l hl9 D T aK aV v B O g ln un nx pl f0 f1 f2 k N K C nt hOI (by omega) _) (va_cwS 3 hts (gC gl_L_call__) rfl rfl rfl (by decide +kernel) ⟨Nat.le_of_ble_eq_true rfl, Nat.le_of_ble_eq_true rfl⟩) (Foc.pre [(q15, .inl (T 0, 5, .inl fa)), (q11, .inl (T 0, 4, .inl fc))] _ _) hC hNC hK hP hD hS hA rfl hl.1 rfl (Nat.le_of_ble_eq_true rfl) ⟨by show _ ≤ 2200; omega, by show _ ≤ 13200; omega⟩ dL_books_139 (fun H locs hP hD hS => ?_)
                            have hP : va_P D vwCl ((q15, .inl (T 0, 5, .inl fa)) :: (q11, .inl (T 0, 4, .inl fc)) :: WIN T v B O g ln un nx pl f0 f1 f2) H := hP
                            have hD : va_D A ((q15, .inl (T 0, 5, .inl fa)) :: (q11, .inl (T 0, 4, .inl fc)) :: WIN T v B O g ln un nx pl f0 f1 f2) := hD
                            refine endI (r := 0) (by rw [e8]; decide) ?_
                            refine lv_istore (lv' := [(13, .int (0)), (12, .int (0)), (11, .int (1)), (10, .int (nI k)), (9, .int (1)), (8, .int (-101)), (7, .int (nI b0)), (6, .int (wt)), (5, .int (ag)), (4, .ref (q15)), (3, .ref (q11)), (2, .int (nI K)), (1, .int (nI N)), (0, .ref (v 0))]) hx hb dL_books_142 hl (by decide) rfl (fun ls hl => ?_)
                            refine lv_aload_n hx hb dL_books_144 rfl (lv_at hl 13 rfl) ?_
                            refine lv_bipush (v := 30) hx hb dL_books_145 (by decide) ?_
                            refine lv_iload hx hb dL_books_147 (lv_at hl 3 rfl) ?_
                            refine lqSi (As := [.ref (v 0), .int (30), .int (nI k)]) (rest := []) ⟨hx, hb, hml, hown, hts⟩ (c_ask_isGivenUp l hl9 D T aK aV v B O g ln un nx pl f0 f1 f2 k N K C nt hOI (by omega) _) (va_cwS 3 hts (gC gl_L_call__) rfl rfl rfl (by decide +kernel) ⟨Nat.le_of_ble_eq_true rfl, Nat.le_of_ble_eq_true rfl⟩) (Foc.pre [(q15, .inl (T 0, 5, .inl fa)), (q11, .inl (T 0, 4, .inl fc))] _ _) hC hNC hK hP hD hS hA rfl hl.1 rfl (Nat.le_of_ble_eq_true rfl) ⟨by show _ ≤ 2200; omega, by show _ ≤ 13200; omega⟩ dL_books_149 (fun H locs hP hD hS => ?_)
                            have hP : va_P D vwCl ((q15, .inl (T 0, 5, .inl fa)) :: (q11, .inl (T 0, 4, .inl fc)) :: WIN T v B O g ln un nx pl f0 f1 f2) H := hP
                            have hD : va_D A ((q15, .inl (T 0, 5, .inl fa)) :: (q11, .inl (T 0, 4, .inl fc)) :: WIN T v B O g ln un nx pl f0 f1 f2) := hD
                            refine endI (r := 0) (by rw [e8]; decide) ?_
                            refine lv_istore (lv' := [(14, .int (0)), (13, .int (0)), (12, .int (0)), (11, .int (1)), (10, .int (nI k)), (9, .int (1)), (8, .int (-101)), (7, .int (nI b0)), (6, .int (wt)), (5, .int (ag)), (4, .ref (q15)), (3, .ref (q11)), (2, .int (nI K)), (1, .int (nI N)), (0, .ref (v 0))]) hx hb dL_books_152 hl (by decide) rfl (fun ls hl => ?_)
                            refine lv_aload_n hx hb dL_books_154 rfl (lv_at hl 14 rfl) ?_
                            refine lv_bipush (v := 26) hx hb dL_books_155 (by decide) ?_
                            refine lv_iload hx hb dL_books_157 (lv_at hl 4 rfl) ?_
                            refine lqSi (As := [.ref (v 0), .int (26), .int (nI k)]) (rest := []) ⟨hx, hb, hml, hown, hts⟩ (c_ask_filedIn l hl9 D T aK aV v B O g ln un nx pl f0 f1 f2 k N K C nt hOI (by omega) _) (va_cwS 3 hts (gC gl_L_call__) rfl rfl rfl (by decide +kernel) ⟨Nat.le_of_ble_eq_true rfl, Nat.le_of_ble_eq_true rfl⟩) (Foc.pre [(q15, .inl (T 0, 5, .inl fa)), (q11, .inl (T 0, 4, .inl fc))] _ _) hC hNC hK hP hD hS hA rfl hl.1 rfl (Nat.le_of_ble_eq_true rfl) ⟨by show _ ≤ 2200; omega, by show _ ≤ 13200; omega⟩ dL_books_159 (fun H locs hP hD hS => ?_)
                            have hP : va_P D vwCl ((q15, .inl (T 0, 5, .inl fa)) :: (q11, .inl (T 0, 4, .inl fc)) :: WIN T v B O g ln un nx pl f0 f1 f2) H := hP
                            have hD : va_D A ((q15, .inl (T 0, 5, .inl fa)) :: (q11, .inl (T 0, 4, .inl fc)) :: WIN T v B O g ln un nx pl f0 f1 f2) := hD
                            refine endI (r := nI ff) (e7) ?_
                            refine lv_istore (lv' := [(15, .int (nI ff)), (14, .int (0)), (13, .int (0)), (12, .int (0)), (11, .int (1)), (10, .int (nI k)), (9, .int (1)), (8, .int (-101)), (7, .int (nI b0)), (6, .int (wt)), (5, .int (ag)), (4, .ref (q15)), (3, .ref (q11)), (2, .int (nI K)), (1, .int (nI N)), (0, .ref (v 0))]) hx hb dL_books_162 hl (by decide) rfl (fun ls hl => ?_)
                            refine lv_aload_n hx hb dL_books_164 rfl (lv_at hl 15 rfl) ?_
                            refine lv_bipush (v := 31) hx hb dL_books_165 (by decide) ?_
                            refine lv_iload hx hb dL_books_167 (lv_at hl 5 rfl) ?_
                            refine lqSi (As := [.ref (v 0), .int (31), .int (nI k)]) (rest := []) ⟨hx, hb, hml, hown, hts⟩ (c_ask_closedIn l hl9 D T aK aV v B O g ln un nx pl f0 f1 f2 k N K C nt hOI (by omega) _) (va_cwS 3 hts (gC gl_L_call__) rfl rfl rfl (by decide +kernel) ⟨Nat.le_of_ble_eq_true rfl, Nat.le_of_ble_eq_true rfl⟩) (Foc.pre [(q15, .inl (T 0, 5, .inl fa)), (q11, .inl (T 0, 4, .inl fc))] _ _) hC hNC hK hP hD hS hA rfl hl.1 rfl (Nat.le_of_ble_eq_true rfl) ⟨by show _ ≤ 2200; omega, by show _ ≤ 13200; omega⟩ dL_books_169 (fun H locs hP hD hS => ?_)
                            have hP : va_P D vwCl ((q15, .inl (T 0, 5, .inl fa)) :: (q11, .inl (T 0, 4, .inl fc)) :: WIN T v B O g ln un nx pl f0 f1 f2) H := hP
                            have hD : va_D A ((q15, .inl (T 0, 5, .inl fa)) :: (q11, .inl (T 0, 4, .inl fc)) :: WIN T v B O g ln un nx pl f0 f1 f2) := hD
                            refine endI (r := -101) (if_pos e8) ?_
                            refine lv_istore (lv' := [(16, .int (-101)), (15, .int (nI ff)), (14, .int (0)), (13, .int (0)), (12, .int (0)), (11, .int (1)), (10, .int (nI k)), (9, .int (1)), (8, .int (-101)), (7, .int (nI b0)), (6, .int (wt)), (5, .int (ag)), (4, .ref (q15)), (3, .ref (q11)), (2, .int (nI K)), (1, .int (nI N)), (0, .ref (v 0))]) hx hb dL_books_172 hl (by decide) rfl (fun ls hl => ?_)
                            refine lv_aload_n hx hb dL_books_174 rfl (lv_at hl 16 rfl) ?_
                            refine lv_bipush (v := 32) hx hb dL_books_175 (by decide) ?_
                            refine lv_iload hx hb dL_books_177 (lv_at hl 6 rfl) ?_
                            refine lqSi (As := [.ref (v 0), .int (32), .int (nI k)]) (rest := []) ⟨hx, hb, hml, hown, hts⟩ (c_ask_clerkOf l hl9 D T aK aV v B O g ln un nx pl f0 f1 f2 k N K C nt hOI (by omega) _) (va_cwS 3 hts (gC gl_L_call__) rfl rfl rfl (by decide +kernel) ⟨Nat.le_of_ble_eq_true rfl, Nat.le_of_ble_eq_true rfl⟩) (Foc.pre [(q15, .inl (T 0, 5, .inl fa)), (q11, .inl (T 0, 4, .inl fc))] _ _) hC hNC hK hP hD hS hA rfl hl.1 rfl (Nat.le_of_ble_eq_true rfl) ⟨by show _ ≤ 2200; omega, by show _ ≤ 13200; omega⟩ dL_books_179 (fun H locs hP hD hS => ?_)
                            have hP : va_P D vwCl ((q15, .inl (T 0, 5, .inl fa)) :: (q11, .inl (T 0, 4, .inl fc)) :: WIN T v B O g ln un nx pl f0 f1 f2) H := hP
                            have hD : va_D A ((q15, .inl (T 0, 5, .inl fa)) :: (q11, .inl (T 0, 4, .inl fc)) :: WIN T v B O g ln un nx pl f0 f1 f2) := hD
                            refine endI (r := -101) (if_pos e10) ?_
                            refine lv_istore (lv' := [(17, .int (-101)), (16, .int (-101)), (15, .int (nI ff)), (14, .int (0)), (13, .int (0)), (12, .int (0)), (11, .int (1)), (10, .int (nI k)), (9, .int (1)), (8, .int (-101)), (7, .int (nI b0)), (6, .int (wt)), (5, .int (ag)), (4, .ref (q15)), (3, .ref (q11)), (2, .int (nI K)), (1, .int (nI N)), (0, .ref (v 0))]) hx hb dL_books_182 hl (by decide) rfl (fun ls hl => ?_)
                            refine lv_aload_n hx hb dL_books_184 rfl (lv_at hl 17 rfl) ?_
                            refine lv_bipush (v := 25) hx hb dL_books_185 (by decide) ?_
                            refine lv_iload hx hb dL_books_187 (lv_at hl 7 rfl) ?_
                            refine lqSi (As := [.ref (v 0), .int (25), .int (nI k)]) (rest := []) ⟨hx, hb, hml, hown, hts⟩ (c_ask_angerOf l hl9 D T aK aV v B O g ln un nx pl f0 f1 f2 k N K C nt hOI (by omega) _) (va_cwS 3 hts (gC gl_L_call__) rfl rfl rfl (by decide +kernel) ⟨Nat.le_of_ble_eq_true rfl, Nat.le_of_ble_eq_true rfl⟩) (Foc.pre [(q15, .inl (T 0, 5, .inl fa)), (q11, .inl (T 0, 4, .inl fc))] _ _) hC hNC hK hP hD hS hA rfl hl.1 rfl (Nat.le_of_ble_eq_true rfl) ⟨by show _ ≤ 2200; omega, by show _ ≤ 13200; omega⟩ dL_books_189 (fun H locs hP hD hS => ?_)
                            have hP : va_P D vwCl ((q15, .inl (T 0, 5, .inl fa)) :: (q11, .inl (T 0, 4, .inl fc)) :: WIN T v B O g ln un nx pl f0 f1 f2) H := hP
                            have hD : va_D A ((q15, .inl (T 0, 5, .inl fa)) :: (q11, .inl (T 0, 4, .inl fc)) :: WIN T v B O g ln un nx pl f0 f1 f2) := hD
                            refine endI (r := nI aa) (e6) ?_
                            refine lv_istore (lv' := [(18, .int (nI aa)), (17, .int (-101)), (16, .int (-101)), (15, .int (nI ff)), (14, .int (0)), (13, .int (0)), (12, .int (0)), (11, .int (1)), (10, .int (nI k)), (9, .int (1)), (8, .int (-101)), (7, .int (nI b0)), (6, .int (wt)), (5, .int (ag)), (4, .ref (q15)), (3, .ref (q11)), (2, .int (nI K)), (1, .int (nI N)), (0, .ref (v 0))]) hx hb dL_books_192 hl (by decide) rfl (fun ls hl => ?_)
                            refine lv_iload hx hb dL_books_194 (lv_at hl 7 rfl) ?_
                            refine lv_iload hx hb dL_books_196 (lv_at hl 6 rfl) ?_
                            refine lv_iadd hx hb dL_books_198 ?_
                            refine endI (r := 1) (by decide) ?_
                            refine lv_iload hx hb dL_books_199 (lv_at hl 5 rfl) ?_
                            refine lv_iadd hx hb dL_books_201 ?_
                            refine endI (r := 1) (by decide) ?_
                            refine lv_iload hx hb dL_books_202 (lv_at hl 4 rfl) ?_
                            refine lv_iadd hx hb dL_books_204 ?_
                            refine endI (r := 1) (by decide) ?_
                            refine lv_iconst (v := 1) hx hb dL_books_205 (by decide) ?_
                            refine lv_icmp_ne (tgt := 391) hx hb dL_books_206 (by decide) (fun c206 => ?_) (fun c206 => ?_)
                            ·
                              exact absurd c206 (by decide)
                            ·
                              refine lv_iload hx hb dL_books_209 (lv_at hl 3 rfl) ?_
                              refine lv_aload_n hx hb dL_books_211 rfl (lv_at hl 18 rfl) ?_
                              refine rdV (As := []) (rest := [.int (nI ff)]) ⟨hx, hb, hml, hown, hts⟩ (c_X9_night l D T v B O g ln un nx pl f0 f1 f2 ) (cwV 0 hts (gC gl_X9_night) rfl rfl rfl (by decide +kernel) ⟨Nat.le_of_ble_eq_true rfl, Nat.le_of_ble_eq_true rfl⟩) hK (wTail (x := [(q15, .inl (T 0, 5, .inl fa)), (q11, .inl (T 0, 4, .inl fc))]) hP hD).1 0 rfl rfl rfl hl.1 rfl (Nat.le_of_ble_eq_true rfl) ⟨by show _ ≤ 2200; omega, by show _ ≤ 13200; omega⟩ dL_books_212 ?_
                              refine endI (r := nI nt) (hn) ?_
                              refine lv_icmp_gt (tgt := 391) hx hb dL_books_215 (by decide) (fun c215 => ?_) (fun c215 => ?_)
                              ·
                                have c215 : nt < ff := (nI_ltI (a := nt) (b := ff) (by omega) (by omega)).mp c215
                                exfalso; omega
                              ·
                                have c215 : ¬ nt < ff := fun h9 => c215 ((nI_ltI (a := nt) (b := ff) (by omega) (by omega)).mpr h9)
                                refine lv_iload hx hb dL_books_218 (lv_at hl 0 rfl) ?_
                                refine lv_if_le (tgt := 391) hx hb dL_books_220 (by decide) (fun c220 => ?_) (fun c220 => ?_)
                                ·
                                  have c220 : aa ≤ 0 := (nI_leI (a := aa) (b := 0) (by omega) (by omega)).mp c220
                                  exfalso; omega
                                ·
                                  have c220 : ¬ aa ≤ 0 := fun h9 => c220 ((nI_leI (a := aa) (b := 0) (by omega) (by omega)).mpr h9)
                                  refine lv_iload hx hb dL_books_223 (lv_at hl 0 rfl) ?_
                                  refine lv_bipush (v := 10) hx hb dL_books_225 (by decide) ?_
                                  refine lv_icmp_ge (tgt := 391) hx hb dL_books_227 (by decide) (fun c227 => ?_) (fun c227 => ?_)
                                  ·
                                    have c227 : 10 ≤ aa := (nI_leI (a := 10) (b := aa) (by omega) (by omega)).mp c227
                                    exfalso; omega
                                  ·
                                    have c227 : ¬ 10 ≤ aa := fun h9 => c227 ((nI_leI (a := 10) (b := aa) (by omega) (by omega)).mpr h9)
                                    refine lv_iload hx hb dL_books_230 (lv_at hl 7 rfl) ?_
                                    refine lv_iconst (v := 1) hx hb dL_books_232 (by decide) ?_
                                    refine lv_icmp_ne (tgt := 258) hx hb dL_books_233 (by decide) (fun c233 => ?_) (fun c233 => ?_)
                                    ·
                                      exact absurd c233 (by decide)
                                    ·
                                      refine lv_iload hx hb dL_books_236 (lv_at hl 2 rfl) ?_
                                      refine lv_bipush (v := -101) hx hb dL_books_238 (by decide) ?_
                                      refine lv_icmp_ne (tgt := 391) hx hb dL_books_240 (by decide) (fun c240 => ?_) (fun c240 => ?_)
                                      ·
                                        exact absurd c240 (by decide)
                                      ·
                                        refine lv_aload_n hx hb dL_books_243 rfl (lv_at hl 18 rfl) ?_
                                        refine rdV (As := []) (rest := []) ⟨hx, hb, hml, hown, hts⟩ (c_X9_night l D T v B O g ln un nx pl f0 f1 f2 ) (cwV 0 hts (gC gl_X9_night) rfl rfl rfl (by decide +kernel) ⟨Nat.le_of_ble_eq_true rfl, Nat.le_of_ble_eq_true rfl⟩) hK (wTail (x := [(q15, .inl (T 0, 5, .inl fa)), (q11, .inl (T 0, 4, .inl fc))]) hP hD).1 0 rfl rfl rfl hl.1 rfl (Nat.le_of_ble_eq_true rfl) ⟨by show _ ≤ 2200; omega, by show _ ≤ 13200; omega⟩ dL_books_244 ?_
                                        refine endI (r := nI nt) (hn) ?_
                                        refine lv_iload hx hb dL_books_247 (lv_at hl 3 rfl) ?_
                                        refine lv_isub hx hb dL_books_249 ?_
                                        refine endI (r := nI (nt - ff)) (pk_sub (a := nt) (b := ff) (by omega)) ?_
                                        refine lv_bipush (v := 56) hx hb dL_books_250 (by decide) ?_
                                        refine lv_icmp_ge (tgt := 391) hx hb dL_books_252 (by decide) (fun c252 => ?_) (fun c252 => ?_)
                                        ·
                                          have c252 : 56 ≤ (nt - ff) := (nI_leI (a := 56) (b := (nt - ff)) (by omega) (by omega)).mp c252
                                          exfalso; omega
                                        ·
                                          have c252 : ¬ 56 ≤ (nt - ff) := fun h9 => c252 ((nI_leI (a := 56) (b := (nt - ff)) (by omega) (by omega)).mpr h9)
                                          refine lv_goto (tgt := 284) hx hb dL_books_255 (by decide) ?_
                                          refine lv_iload hx hb dL_books_284 (lv_at hl 1 rfl) ?_
                                          refine lv_bipush (v := -101) hx hb dL_books_286 (by decide) ?_
                                          refine lv_icmp_ne (tgt := 295) hx hb dL_books_288 (by decide) (fun c288 => ?_) (fun c288 => ?_)
                                          ·
                                            exact absurd c288 (by decide)
                                          ·
                                            refine lv_iconst (v := 1) hx hb dL_books_291 (by decide) ?_
                                            refine lv_goto (tgt := 296) hx hb dL_books_292 (by decide) ?_
                                            refine lv_iload hx hb dL_books_296 (lv_at hl 7 rfl) ?_
                                            refine lv_iload hx hb dL_books_298 (lv_at hl 4 rfl) ?_
                                            refine lv_iadd hx hb dL_books_300 ?_
                                            refine endI (r := 1) (by decide) ?_
                                            refine lv_iconst (v := 1) hx hb dL_books_301 (by decide) ?_
                                            refine lv_icmp_ne (tgt := 309) hx hb dL_books_302 (by decide) (fun c302 => ?_) (fun c302 => ?_)
                                            ·
                                              exact absurd c302 (by decide)
                                            ·
                                              refine lv_iconst (v := 1) hx hb dL_books_305 (by decide) ?_
                                              refine lv_goto (tgt := 310) hx hb dL_books_306 (by decide) ?_
                                              refine lv_icmp_ne (tgt := 391) hx hb dL_books_310 (by decide) (fun c310 => ?_) (fun c310 => ?_)
                                              ·
                                                exact absurd c310 (by decide)
                                              ·
                                                refine lv_iload hx hb dL_books_313 (lv_at hl 5 rfl) ?_
                                                refine lv_if_eq (tgt := 328) hx hb dL_books_315 (by decide) (fun c315 => ?_) (fun c315 => ?_)
                                                ·
                                                  refine lv_aload_n hx hb dL_books_328 rfl (lv_at hl 18 rfl) ?_
                                                  refine lv_bipush (v := 33) hx hb dL_books_329 (by decide) ?_
                                                  refine lv_aload_n hx hb dL_books_331 rfl (lv_at hl 18 rfl) ?_
                                                  refine lv_bipush (v := 23) hx hb dL_books_332 (by decide) ?_
                                                  refine lv_iload hx hb dL_books_334 (lv_at hl 8 rfl) ?_
                                                  refine lqSi (As := [.ref (v 0), .int (23), .int (nI k)]) (rest := [.int (33), .ref (v 0)]) ⟨hx, hb, hml, hown, hts⟩ (c_ask_personOf l hl9 D T aK aV v B O g ln un nx pl f0 f1 f2 k N K C nt hOI (by omega) _) (va_cwS 3 hts (gC gl_L_call__) rfl rfl rfl (by decide +kernel) ⟨Nat.le_of_ble_eq_true rfl, Nat.le_of_ble_eq_true rfl⟩) (Foc.pre [(q15, .inl (T 0, 5, .inl fa)), (q11, .inl (T 0, 4, .inl fc))] _ _) hC hNC hK hP hD hS hA rfl hl.1 rfl (Nat.le_of_ble_eq_true rfl) ⟨by show _ ≤ 2200; omega, by show _ ≤ 13200; omega⟩ dL_books_336 (fun H locs hP hD hS => ?_)
                                                  have hP : va_P D vwCl ((q15, .inl (T 0, 5, .inl fa)) :: (q11, .inl (T 0, 4, .inl fc)) :: WIN T v B O g ln un nx pl f0 f1 f2) H := hP
                                                  have hD : va_D A ((q15, .inl (T 0, 5, .inl fa)) :: (q11, .inl (T 0, 4, .inl fc)) :: WIN T v B O g ln un nx pl f0 f1 f2) := hD
                                                  refine endI (r := nI pp) (e4) ?_
                                                  refine lv_aload_n hx hb dL_books_339 rfl (lv_at hl 18 rfl) ?_
                                                  refine lv_bipush (v := 24) hx hb dL_books_340 (by decide) ?_
                                                  refine lv_iload hx hb dL_books_342 (lv_at hl 8 rfl) ?_
                                                  refine lqSi (As := [.ref (v 0), .int (24), .int (nI k)]) (rest := [.int (nI pp), .int (33), .ref (v 0)]) ⟨hx, hb, hml, hown, hts⟩ (c_ask_sortOf l hl9 D T aK aV v B O g ln un nx pl f0 f1 f2 k N K C nt hOI (by omega) _) (va_cwS 3 hts (gC gl_L_call__) rfl rfl rfl (by decide +kernel) ⟨Nat.le_of_ble_eq_true rfl, Nat.le_of_ble_eq_true rfl⟩) (Foc.pre [(q15, .inl (T 0, 5, .inl fa)), (q11, .inl (T 0, 4, .inl fc))] _ _) hC hNC hK hP hD hS hA rfl hl.1 rfl (Nat.le_of_ble_eq_true rfl) ⟨by show _ ≤ 2200; omega, by show _ ≤ 13200; omega⟩ dL_books_344 (fun H locs hP hD hS => ?_)
                                                  have hP : va_P D vwCl ((q15, .inl (T 0, 5, .inl fa)) :: (q11, .inl (T 0, 4, .inl fc)) :: WIN T v B O g ln un nx pl f0 f1 f2) H := hP
                                                  have hD : va_D A ((q15, .inl (T 0, 5, .inl fa)) :: (q11, .inl (T 0, 4, .inl fc)) :: WIN T v B O g ln un nx pl f0 f1 f2) := hD
                                                  refine endI (r := nI qq) (e5) ?_
                                                  refine lqSi (As := [.ref (v 0), .int (33), .int (nI pp), .int (nI qq)]) (rest := []) ⟨hx, hb, hml, hown, hts⟩ (c_ask_waitingOf l hl9 D T aK aV v B O g ln un nx pl f0 f1 f2 (nI pp) (nI qq) N K C nt hOI (rg_99 (by omega)) (rg_3 (by omega)) _) (va_cwS 4 hts (gC gl_L_call_) rfl rfl rfl (by decide +kernel) ⟨Nat.le_of_ble_eq_true rfl, Nat.le_of_ble_eq_true rfl⟩) (Foc.pre [(q15, .inl (T 0, 5, .inl fa)), (q11, .inl (T 0, 4, .inl fc))] _ _) hC hNC hK hP hD hS hA rfl hl.1 rfl (Nat.le_of_ble_eq_true rfl) ⟨by show _ ≤ 2200; omega, by show _ ≤ 13200; omega⟩ dL_books_347 (fun H locs hP hD hS => ?_)
                                                  have hP : va_P D vwCl ((q15, .inl (T 0, 5, .inl fa)) :: (q11, .inl (T 0, 4, .inl fc)) :: WIN T v B O g ln un nx pl f0 f1 f2) H := hP
                                                  have hD : va_D A ((q15, .inl (T 0, 5, .inl fa)) :: (q11, .inl (T 0, 4, .inl fc)) :: WIN T v B O g ln un nx pl f0 f1 f2) := hD
                                                  refine endI (r := nI k) (by rw [← e4, ← e5, find_wait hOV (by omega) e8]; rfl) ?_
                                                  refine lv_bipush (v := -104) hx hb dL_books_350 (by decide) ?_
                                                  refine lv_icmp_eq (tgt := 391) hx hb dL_books_352 (by decide) (fun c352 => ?_) (fun c352 => ?_)
                                                  ·
                                                    exact absurd c352 (nI_nneg (by omega) (by decide))
                                                  ·
                                                    refine lv_iload hx hb dL_books_355 (lv_at hl 7 rfl) ?_
                                                    refine lv_if_eq (tgt := 387) hx hb dL_books_357 (by decide) (fun c357 => ?_) (fun c357 => ?_)
                                                    ·
                                                      exact absurd c357 (by decide)
                                                    ·
                                                      refine lv_aload_n hx hb dL_books_360 rfl (lv_at hl 18 rfl) ?_
                                                      refine lv_bipush (v := 33) hx hb dL_books_361 (by decide) ?_
                                                      refine lv_aload_n hx hb dL_books_363 rfl (lv_at hl 18 rfl) ?_
                                                      refine lv_bipush (v := 23) hx hb dL_books_364 (by decide) ?_
                                                      refine lv_iload hx hb dL_books_366 (lv_at hl 8 rfl) ?_
                                                      refine lqSi (As := [.ref (v 0), .int (23), .int (nI k)]) (rest := [.int (33), .ref (v 0)]) ⟨hx, hb, hml, hown, hts⟩ (c_ask_personOf l hl9 D T aK aV v B O g ln un nx pl f0 f1 f2 k N K C nt hOI (by omega) _) (va_cwS 3 hts (gC gl_L_call__) rfl rfl rfl (by decide +kernel) ⟨Nat.le_of_ble_eq_true rfl, Nat.le_of_ble_eq_true rfl⟩) (Foc.pre [(q15, .inl (T 0, 5, .inl fa)), (q11, .inl (T 0, 4, .inl fc))] _ _) hC hNC hK hP hD hS hA rfl hl.1 rfl (Nat.le_of_ble_eq_true rfl) ⟨by show _ ≤ 2200; omega, by show _ ≤ 13200; omega⟩ dL_books_368 (fun H locs hP hD hS => ?_)
                                                      have hP : va_P D vwCl ((q15, .inl (T 0, 5, .inl fa)) :: (q11, .inl (T 0, 4, .inl fc)) :: WIN T v B O g ln un nx pl f0 f1 f2) H := hP
                                                      have hD : va_D A ((q15, .inl (T 0, 5, .inl fa)) :: (q11, .inl (T 0, 4, .inl fc)) :: WIN T v B O g ln un nx pl f0 f1 f2) := hD
                                                      refine endI (r := nI pp) (e4) ?_
                                                      refine lv_aload_n hx hb dL_books_371 rfl (lv_at hl 18 rfl) ?_
                                                      refine lv_bipush (v := 24) hx hb dL_books_372 (by decide) ?_
                                                      refine lv_iload hx hb dL_books_374 (lv_at hl 8 rfl) ?_
                                                      refine lqSi (As := [.ref (v 0), .int (24), .int (nI k)]) (rest := [.int (nI pp), .int (33), .ref (v 0)]) ⟨hx, hb, hml, hown, hts⟩ (c_ask_sortOf l hl9 D T aK aV v B O g ln un nx pl f0 f1 f2 k N K C nt hOI (by omega) _) (va_cwS 3 hts (gC gl_L_call__) rfl rfl rfl (by decide +kernel) ⟨Nat.le_of_ble_eq_true rfl, Nat.le_of_ble_eq_true rfl⟩) (Foc.pre [(q15, .inl (T 0, 5, .inl fa)), (q11, .inl (T 0, 4, .inl fc))] _ _) hC hNC hK hP hD hS hA rfl hl.1 rfl (Nat.le_of_ble_eq_true rfl) ⟨by show _ ≤ 2200; omega, by show _ ≤ 13200; omega⟩ dL_books_376 (fun H locs hP hD hS => ?_)
                                                      have hP : va_P D vwCl ((q15, .inl (T 0, 5, .inl fa)) :: (q11, .inl (T 0, 4, .inl fc)) :: WIN T v B O g ln un nx pl f0 f1 f2) H := hP
                                                      have hD : va_D A ((q15, .inl (T 0, 5, .inl fa)) :: (q11, .inl (T 0, 4, .inl fc)) :: WIN T v B O g ln un nx pl f0 f1 f2) := hD
                                                      refine endI (r := nI qq) (e5) ?_
                                                      refine lqSi (As := [.ref (v 0), .int (33), .int (nI pp), .int (nI qq)]) (rest := []) ⟨hx, hb, hml, hown, hts⟩ (c_ask_waitingOf l hl9 D T aK aV v B O g ln un nx pl f0 f1 f2 (nI pp) (nI qq) N K C nt hOI (rg_99 (by omega)) (rg_3 (by omega)) _) (va_cwS 4 hts (gC gl_L_call_) rfl rfl rfl (by decide +kernel) ⟨Nat.le_of_ble_eq_true rfl, Nat.le_of_ble_eq_true rfl⟩) (Foc.pre [(q15, .inl (T 0, 5, .inl fa)), (q11, .inl (T 0, 4, .inl fc))] _ _) hC hNC hK hP hD hS hA rfl hl.1 rfl (Nat.le_of_ble_eq_true rfl) ⟨by show _ ≤ 2200; omega, by show _ ≤ 13200; omega⟩ dL_books_379 (fun H locs hP hD hS => ?_)
                                                      have hP : va_P D vwCl ((q15, .inl (T 0, 5, .inl fa)) :: (q11, .inl (T 0, 4, .inl fc)) :: WIN T v B O g ln un nx pl f0 f1 f2) H := hP
                                                      have hD : va_D A ((q15, .inl (T 0, 5, .inl fa)) :: (q11, .inl (T 0, 4, .inl fc)) :: WIN T v B O g ln un nx pl f0 f1 f2) := hD
                                                      refine endI (r := nI k) (by rw [← e4, ← e5, find_wait hOV (by omega) e8]; rfl) ?_
                                                      refine lv_iload hx hb dL_books_382 (lv_at hl 8 rfl) ?_
                                                      refine lv_icmp_ne (tgt := 391) hx hb dL_books_384 (by decide) (fun c384 => ?_) (fun c384 => ?_)
                                                      ·
                                                        exact absurd rfl c384
                                                      ·
                                                        refine lv_iconst (v := 1) hx hb dL_books_387 (by decide) ?_
                                                        refine lv_goto (tgt := 392) hx hb dL_books_388 (by decide) ?_
                                                        refine lv_istore (lv' := [(9, .int (1)), (18, .int (nI aa)), (17, .int (-101)), (16, .int (-101)), (15, .int (nI ff)), (14, .int (0)), (13, .int (0)), (12, .int (0)), (11, .int (1)), (10, .int (nI k)), (8, .int (-101)), (7, .int (nI b0)), (6, .int (wt)), (5, .int (ag)), (4, .ref (q15)), (3, .ref (q11)), (2, .int (nI K)), (1, .int (nI N)), (0, .ref (v 0))]) hx hb dL_books_392 hl (by decide) rfl (fun ls hl => ?_)
                                                        refine lv_aload_n hx hb dL_books_394 rfl (lv_at hl 15 rfl) ?_
                                                        refine lv_iload hx hb dL_books_395 (lv_at hl 7 rfl) ?_
                                                        refine lv_iconst (v := 2) hx hb dL_books_397 (by decide) ?_
                                                        refine lv_iload hx hb dL_books_398 (lv_at hl 6 rfl) ?_
                                                        refine lv_imul hx hb dL_books_400 ?_
                                                        refine endI (r := 0) (by decide) ?_
                                                        refine lv_iadd hx hb dL_books_401 ?_
                                                        refine endI (r := 0) (by decide) ?_
                                                        refine lv_iconst (v := 3) hx hb dL_books_402 (by decide) ?_
                                                        refine lv_iload hx hb dL_books_403 (lv_at hl 5 rfl) ?_
                                                        refine lv_imul hx hb dL_books_405 ?_
                                                        refine endI (r := 0) (by decide) ?_
                                                        refine lv_iadd hx hb dL_books_406 ?_
                                                        refine endI (r := 0) (by decide) ?_
                                                        refine lv_dup2_11 hx hb dL_books_407 rfl rfl ?_
                                                        refine aldI hx hb hK hP 1 0 rfl rfl (0) rfl (by omega) (by decide) dL_books_408 ?_
                                                        refine lv_iconst (v := 1) hx hb dL_books_409 (by decide) ?_
                                                        refine lv_iadd hx hb dL_books_410 ?_
                                                        refine astI hx hb hK hP hD hS 1 0 rfl rfl (0) rfl (by omega) (by decide) dL_books_411 (fun H locs hP hD hS => ?_)
                                                        have hP : va_P D vwCl ((q15, .inl (T 0, 5, .inl fa)) :: (q11, .inl (T 0, 4, .inl (va_up fc 0 ((fc 0) + 1)))) :: WIN T v B O g ln un nx pl f0 f1 f2) H := hP
                                                        have hD : va_D A ((q15, .inl (T 0, 5, .inl fa)) :: (q11, .inl (T 0, 4, .inl (va_up fc 0 ((fc 0) + 1)))) :: WIN T v B O g ln un nx pl f0 f1 f2) := hD
                                                        refine lv_iload hx hb dL_books_412 (lv_at hl 7 rfl) ?_
                                                        refine lv_iconst (v := 1) hx hb dL_books_414 (by decide) ?_
                                                        refine lv_icmp_ne (tgt := 444) hx hb dL_books_415 (by decide) (fun c415 => ?_) (fun c415 => ?_)
                                                        ·
                                                          refine lv_iload hx hb dL_books_444 (lv_at hl 8 rfl) ?_
                                                          refine lv_if_ne (tgt := 452) hx hb dL_books_446 (by decide) (fun c446 => ?_) (fun c446 => ?_)
                                                          ·
                                                            refine lv_iload hx hb dL_books_452 (lv_at hl 11 rfl) ?_
                                                            refine lv_if_lt (tgt := 470) hx hb dL_books_454 (by decide) (fun c454 => ?_) (fun c454 => ?_)
                                                            ·
                                                              have c454 : b0 < 0 := (nI_ltI (a := b0) (b := 0) (by omega) (by omega)).mp c454
                                                              exfalso; omega
                                                            ·
                                                              have c454 : ¬ b0 < 0 := fun h9 => c454 ((nI_ltI (a := b0) (b := 0) (by omega) (by omega)).mpr h9)
                                                              refine lv_iload hx hb dL_books_457 (lv_at hl 4 rfl) ?_
                                                              refine lv_aload_n hx hb dL_books_459 rfl (lv_at hl 18 rfl) ?_
                                                              refine lv_bipush (v := 26) hx hb dL_books_460 (by decide) ?_
                                                              refine lv_iload hx hb dL_books_462 (lv_at hl 11 rfl) ?_
                                                              refine lqSi (As := [.ref (v 0), .int (26), .int (nI b0)]) (rest := [.int (nI ff)]) ⟨hx, hb, hml, hown, hts⟩ (c_ask_filedIn l hl9 D T aK aV v B O g ln un nx pl f0 f1 f2 b0 N K C nt hOI (by omega) _) (va_cwS 3 hts (gC gl_L_call__) rfl rfl rfl (by decide +kernel) ⟨Nat.le_of_ble_eq_true rfl, Nat.le_of_ble_eq_true rfl⟩) (Foc.pre [(q15, .inl (T 0, 5, .inl fa)), (q11, .inl (T 0, 4, .inl (va_up fc 0 ((fc 0) + 1))))] _ _) hC hNC hK hP hD hS hA rfl hl.1 rfl (Nat.le_of_ble_eq_true rfl) ⟨by show _ ≤ 2200; omega, by show _ ≤ 13200; omega⟩ dL_books_464 (fun H locs hP hD hS => ?_)
                                                              have hP : va_P D vwCl ((q15, .inl (T 0, 5, .inl fa)) :: (q11, .inl (T 0, 4, .inl (va_up fc 0 ((fc 0) + 1)))) :: WIN T v B O g ln un nx pl f0 f1 f2) H := hP
                                                              have hD : va_D A ((q15, .inl (T 0, 5, .inl fa)) :: (q11, .inl (T 0, 4, .inl (va_up fc 0 ((fc 0) + 1)))) :: WIN T v B O g ln un nx pl f0 f1 f2) := hD
                                                              refine lv_icmp_ge (tgt := 474) hx hb dL_books_467 (by decide) (fun c467 => ?_) (fun c467 => ?_)
                                                              ·
                                                                refine lv_iload hx hb dL_books_474 (lv_at hl 10 rfl) ?_
                                                                refine lv_if_lt (tgt := 492) hx hb dL_books_476 (by decide) (fun c476 => ?_) (fun c476 => ?_)
                                                                ·
                                                                  refine lv_iload hx hb dL_books_492 (lv_at hl 9 rfl) ?_
                                                                  refine lv_istore (lv' := [(8, .int (nI k)), (9, .int (1)), (18, .int (nI aa)), (17, .int (-101)), (16, .int (-101)), (15, .int (nI ff)), (14, .int (0)), (13, .int (0)), (12, .int (0)), (11, .int (1)), (10, .int (nI k)), (7, .int (nI b0)), (6, .int (wt)), (5, .int (ag)), (4, .ref (q15)), (3, .ref (q11)), (2, .int (nI K)), (1, .int (nI N)), (0, .ref (v 0))]) hx hb dL_books_494 hl (by decide) rfl (fun ls hl => ?_)
                                                                  refine lv_iinc (v := nI (k + 1)) (lv' := [(10, .int (nI (k + 1))), (8, .int (nI k)), (9, .int (1)), (18, .int (nI aa)), (17, .int (-101)), (16, .int (-101)), (15, .int (nI ff)), (14, .int (0)), (13, .int (0)), (12, .int (0)), (11, .int (1)), (7, .int (nI b0)), (6, .int (wt)), (5, .int (ag)), (4, .ref (q15)), (3, .ref (q11)), (2, .int (nI K)), (1, .int (nI N)), (0, .ref (v 0))]) hx hb dL_books_496 hl (k := 10) rfl (nI_1 _) (by decide) rfl (fun ls hl => ?_)
                                                                  refine lv_goto (tgt := 103) hx hb dL_books_499 (by decide) ?_
                                                                  exact ih103 (k + 1) (va_up fc 0 ((fc 0) + 1)) fa ag wt (some b0) (some k) _ _ (by omega) (by omega) (by first | exact cnt_upd 0 (by omega) e8 (by omega) hfc | exact cnt_upd 1 (by omega) e8 (by omega) hfc | exact cnt_upd 2 (by omega) e8 (by omega) hfc | exact cnt_upd 3 (by omega) e8 (by omega) hfc) (by first | exact ans_yes e8 e10 hjj hK2 (by omega) hfa | exact ans_no (by rw [e8]; decide) (by omega) hfa) (by first | exact sum_yes e8 e6 (by omega) hag | exact sum_no (by rw [e8]; decide) (by omega) hag) (by first | exact sum_yes e8 (by rw [e9, e7]; exact pk_sub (by omega)) (by omega) hwt | exact sum_no (by rw [e8]; decide) (by omega) hwt) (by first | exact best_no (decide_eq_false (by rw [e8]; decide)) (by omega) hbo | exact best_new (decide_eq_true e8) (by omega) hbo | exact best_beat (decide_eq_true e8) (decide_eq_true (by rw [e7]; exact Int32.not_le.mp c467)) (by omega) hbo | exact best_stay (decide_eq_true e8) (decide_eq_false (by rw [e7]; exact Int32.not_lt.mpr c467)) (by omega) hbo) (by first | exact best_no (decide_eq_false (by rw [e8]; decide)) (by omega) hba | exact best_new (decide_eq_true e8) (by omega) hba | exact best_beat (decide_eq_true e8) (decide_eq_true (by rw [e6]; exact Int32.not_le.mp c489)) (by omega) hba | exact best_stay (decide_eq_true e8) (decide_eq_false (by rw [e6]; exact Int32.not_lt.mpr c489)) (by omega) hba) (by intro j h; first | (cases h; omega) | exact hbo2 j h) (by intro j h; first | (cases h; omega) | exact hba2 j h) (by omega) (by omega) _ _ _ hP hD hS (lv_sub hl [0, 2, 1, 11, 12, 13, 14, 15, 16, 17, 18] rfl)
                                                                ·
                                                                  exact absurd c476 (by decide)
                                                              ·
                                                                refine lv_iload hx hb dL_books_470 (lv_at hl 9 rfl) ?_
                                                                refine lv_istore (lv' := [(7, .int (nI k)), (9, .int (1)), (18, .int (nI aa)), (17, .int (-101)), (16, .int (-101)), (15, .int (nI ff)), (14, .int (0)), (13, .int (0)), (12, .int (0)), (11, .int (1)), (10, .int (nI k)), (8, .int (-101)), (6, .int (wt)), (5, .int (ag)), (4, .ref (q15)), (3, .ref (q11)), (2, .int (nI K)), (1, .int (nI N)), (0, .ref (v 0))]) hx hb dL_books_472 hl (by decide) rfl (fun ls hl => ?_)
                                                                refine lv_iload hx hb dL_books_474 (lv_at hl 11 rfl) ?_
                                                                refine lv_if_lt (tgt := 492) hx hb dL_books_476 (by decide) (fun c476 => ?_) (fun c476 => ?_)
                                                                ·
                                                                  refine lv_iload hx hb dL_books_492 (lv_at hl 10 rfl) ?_
                                                                  refine lv_istore (lv' := [(8, .int (nI k)), (7, .int (nI k)), (9, .int (1)), (18, .int (nI aa)), (17, .int (-101)), (16, .int (-101)), (15, .int (nI ff)), (14, .int (0)), (13, .int (0)), (12, .int (0)), (11, .int (1)), (10, .int (nI k)), (6, .int (wt)), (5, .int (ag)), (4, .ref (q15)), (3, .ref (q11)), (2, .int (nI K)), (1, .int (nI N)), (0, .ref (v 0))]) hx hb dL_books_494 hl (by decide) rfl (fun ls hl => ?_)
                                                                  refine lv_iinc (v := nI (k + 1)) (lv' := [(10, .int (nI (k + 1))), (8, .int (nI k)), (7, .int (nI k)), (9, .int (1)), (18, .int (nI aa)), (17, .int (-101)), (16, .int (-101)), (15, .int (nI ff)), (14, .int (0)), (13, .int (0)), (12, .int (0)), (11, .int (1)), (6, .int (wt)), (5, .int (ag)), (4, .ref (q15)), (3, .ref (q11)), (2, .int (nI K)), (1, .int (nI N)), (0, .ref (v 0))]) hx hb dL_books_496 hl (k := 11) rfl (nI_1 _) (by decide) rfl (fun ls hl => ?_)
                                                                  refine lv_goto (tgt := 103) hx hb dL_books_499 (by decide) ?_
                                                                  exact ih103 (k + 1) (va_up fc 0 ((fc 0) + 1)) fa ag wt (some k) (some k) _ _ (by omega) (by omega) (by first | exact cnt_upd 0 (by omega) e8 (by omega) hfc | exact cnt_upd 1 (by omega) e8 (by omega) hfc | exact cnt_upd 2 (by omega) e8 (by omega) hfc | exact cnt_upd 3 (by omega) e8 (by omega) hfc) (by first | exact ans_yes e8 e10 hjj hK2 (by omega) hfa | exact ans_no (by rw [e8]; decide) (by omega) hfa) (by first | exact sum_yes e8 e6 (by omega) hag | exact sum_no (by rw [e8]; decide) (by omega) hag) (by first | exact sum_yes e8 (by rw [e9, e7]; exact pk_sub (by omega)) (by omega) hwt | exact sum_no (by rw [e8]; decide) (by omega) hwt) (by first | exact best_no (decide_eq_false (by rw [e8]; decide)) (by omega) hbo | exact best_new (decide_eq_true e8) (by omega) hbo | exact best_beat (decide_eq_true e8) (decide_eq_true (by rw [e7]; exact Int32.not_le.mp c467)) (by omega) hbo | exact best_stay (decide_eq_true e8) (decide_eq_false (by rw [e7]; exact Int32.not_lt.mpr c467)) (by omega) hbo) (by first | exact best_no (decide_eq_false (by rw [e8]; decide)) (by omega) hba | exact best_new (decide_eq_true e8) (by omega) hba | exact best_beat (decide_eq_true e8) (decide_eq_true (by rw [e6]; exact Int32.not_le.mp c489)) (by omega) hba | exact best_stay (decide_eq_true e8) (decide_eq_false (by rw [e6]; exact Int32.not_lt.mpr c489)) (by omega) hba) (by intro j h; first | (cases h; omega) | exact hbo2 j h) (by intro j h; first | (cases h; omega) | exact hba2 j h) (by omega) (by omega) _ _ _ hP hD hS (lv_sub hl [0, 3, 1, 2, 12, 13, 14, 15, 16, 17, 18] rfl)
                                                                ·
                                                                  exact absurd c476 (by decide)
                                                          ·
                                                            exact absurd c446 (by decide)
                                                        ·
                                                          exact absurd c415 (by decide)
                                                ·
                                                  exact absurd c315 (by decide)
                          ·
                            have hb0 := hbo2 b0 rfl
                            have hb1 := hba2 b1 rfl
                            have hl : lv_has ls 19 [(10, .int (nI k)), (9, .int (1)), (8, .int (nI b1)), (7, .int (nI b0)), (6, .int (wt)), (5, .int (ag)), (4, .ref (q15)), (3, .ref (q11)), (2, .int (nI K)), (1, .int (nI N)), (0, .ref (v 0))] := hl
                            refine lv_aload_n hx hb dL_books_114 rfl (lv_at hl 10 rfl) ?_
                            refine lv_bipush (v := 27) hx hb dL_books_115 (by decide) ?_
                            refine lv_iload hx hb dL_books_117 (lv_at hl 0 rfl) ?_
                            refine lqSi (As := [.ref (v 0), .int (27), .int (nI k)]) (rest := []) ⟨hx, hb, hml, hown, hts⟩ (c_ask_isWaiting l hl9 D T aK aV v B O g ln un nx pl f0 f1 f2 k N K C nt hOI (by omega) _) (va_cwS 3 hts (gC gl_L_call__) rfl rfl rfl (by decide +kernel) ⟨Nat.le_of_ble_eq_true rfl, Nat.le_of_ble_eq_true rfl⟩) (Foc.pre [(q15, .inl (T 0, 5, .inl fa)), (q11, .inl (T 0, 4, .inl fc))] _ _) hC hNC hK hP hD hS hA rfl hl.1 rfl (Nat.le_of_ble_eq_true rfl) ⟨by show _ ≤ 2200; omega, by show _ ≤ 13200; omega⟩ dL_books_119 (fun H locs hP hD hS => ?_)
                            have hP : va_P D vwCl ((q15, .inl (T 0, 5, .inl fa)) :: (q11, .inl (T 0, 4, .inl fc)) :: WIN T v B O g ln un nx pl f0 f1 f2) H := hP
                            have hD : va_D A ((q15, .inl (T 0, 5, .inl fa)) :: (q11, .inl (T 0, 4, .inl fc)) :: WIN T v B O g ln un nx pl f0 f1 f2) := hD
                            refine endI (r := 1) (by rw [e8]; decide) ?_
                            refine lv_istore (lv' := [(11, .int (1)), (10, .int (nI k)), (9, .int (1)), (8, .int (nI b1)), (7, .int (nI b0)), (6, .int (wt)), (5, .int (ag)), (4, .ref (q15)), (3, .ref (q11)), (2, .int (nI K)), (1, .int (nI N)), (0, .ref (v 0))]) hx hb dL_books_122 hl (by decide) rfl (fun ls hl => ?_)
                            refine lv_aload_n hx hb dL_books_124 rfl (lv_at hl 11 rfl) ?_
                            refine lv_bipush (v := 28) hx hb dL_books_125 (by decide) ?_
                            refine lv_iload hx hb dL_books_127 (lv_at hl 1 rfl) ?_
                            refine lqSi (As := [.ref (v 0), .int (28), .int (nI k)]) (rest := []) ⟨hx, hb, hml, hown, hts⟩ (c_ask_isAnswered l hl9 D T aK aV v B O g ln un nx pl f0 f1 f2 k N K C nt hOI (by omega) _) (va_cwS 3 hts (gC gl_L_call__) rfl rfl rfl (by decide +kernel) ⟨Nat.le_of_ble_eq_true rfl, Nat.le_of_ble_eq_true rfl⟩) (Foc.pre [(q15, .inl (T 0, 5, .inl fa)), (q11, .inl (T 0, 4, .inl fc))] _ _) hC hNC hK hP hD hS hA rfl hl.1 rfl (Nat.le_of_ble_eq_true rfl) ⟨by show _ ≤ 2200; omega, by show _ ≤ 13200; omega⟩ dL_books_129 (fun H locs hP hD hS => ?_)
                            have hP : va_P D vwCl ((q15, .inl (T 0, 5, .inl fa)) :: (q11, .inl (T 0, 4, .inl fc)) :: WIN T v B O g ln un nx pl f0 f1 f2) H := hP
                            have hD : va_D A ((q15, .inl (T 0, 5, .inl fa)) :: (q11, .inl (T 0, 4, .inl fc)) :: WIN T v B O g ln un nx pl f0 f1 f2) := hD
                            refine endI (r := 0) (by rw [e8]; decide) ?_
                            refine lv_istore (lv' := [(12, .int (0)), (11, .int (1)), (10, .int (nI k)), (9, .int (1)), (8, .int (nI b1)), (7, .int (nI b0)), (6, .int (wt)), (5, .int (ag)), (4, .ref (q15)), (3, .ref (q11)), (2, .int (nI K)), (1, .int (nI N)), (0, .ref (v 0))]) hx hb dL_books_132 hl (by decide) rfl (fun ls hl => ?_)
                            refine lv_aload_n hx hb dL_books_134 rfl (lv_at hl 12 rfl) ?_
                            refine lv_bipush (v := 29) hx hb dL_books_135 (by decide) ?_
                            refine lv_iload hx hb dL_books_137 (lv_at hl 2 rfl) ?_
                            refine lqSi (As := [.ref (v 0), .int (29), .int (nI k)]) (rest := []) ⟨hx, hb, hml, hown, hts⟩ (c_ask_isDismissed l hl9 D T aK aV v B O g ln un nx pl f0 f1 f2 k N K C nt hOI (by omega) _) (va_cwS 3 hts (gC gl_L_call__) rfl rfl rfl (by decide +kernel) ⟨Nat.le_of_ble_eq_true rfl, Nat.le_of_ble_eq_true rfl⟩) (Foc.pre [(q15, .inl (T 0, 5, .inl fa)), (q11, .inl (T 0, 4, .inl fc))] _ _) hC hNC hK hP hD hS hA rfl hl.1 rfl (Nat.le_of_ble_eq_true rfl) ⟨by show _ ≤ 2200; omega, by show _ ≤ 13200; omega⟩ dL_books_139 (fun H locs hP hD hS => ?_)
                            have hP : va_P D vwCl ((q15, .inl (T 0, 5, .inl fa)) :: (q11, .inl (T 0, 4, .inl fc)) :: WIN T v B O g ln un nx pl f0 f1 f2) H := hP
                            have hD : va_D A ((q15, .inl (T 0, 5, .inl fa)) :: (q11, .inl (T 0, 4, .inl fc)) :: WIN T v B O g ln un nx pl f0 f1 f2) := hD
                            refine endI (r := 0) (by rw [e8]; decide) ?_
                            refine lv_istore (lv' := [(13, .int (0)), (12, .int (0)), (11, .int (1)), (10, .int (nI k)), (9, .int (1)), (8, .int (nI b1)), (7, .int (nI b0)), (6, .int (wt)), (5, .int (ag)), (4, .ref (q15)), (3, .ref (q11)), (2, .int (nI K)), (1, .int (nI N)), (0, .ref (v 0))]) hx hb dL_books_142 hl (by decide) rfl (fun ls hl => ?_)
                            refine lv_aload_n hx hb dL_books_144 rfl (lv_at hl 13 rfl) ?_
                            refine lv_bipush (v := 30) hx hb dL_books_145 (by decide) ?_
                            refine lv_iload hx hb dL_books_147 (lv_at hl 3 rfl) ?_
                            refine lqSi (As := [.ref (v 0), .int (30), .int (nI k)]) (rest := []) ⟨hx, hb, hml, hown, hts⟩ (c_ask_isGivenUp l hl9 D T aK aV v B O g ln un nx pl f0 f1 f2 k N K C nt hOI (by omega) _) (va_cwS 3 hts (gC gl_L_call__) rfl rfl rfl (by decide +kernel) ⟨Nat.le_of_ble_eq_true rfl, Nat.le_of_ble_eq_true rfl⟩) (Foc.pre [(q15, .inl (T 0, 5, .inl fa)), (q11, .inl (T 0, 4, .inl fc))] _ _) hC hNC hK hP hD hS hA rfl hl.1 rfl (Nat.le_of_ble_eq_true rfl) ⟨by show _ ≤ 2200; omega, by show _ ≤ 13200; omega⟩ dL_books_149 (fun H locs hP hD hS => ?_)
                            have hP : va_P D vwCl ((q15, .inl (T 0, 5, .inl fa)) :: (q11, .inl (T 0, 4, .inl fc)) :: WIN T v B O g ln un nx pl f0 f1 f2) H := hP
                            have hD : va_D A ((q15, .inl (T 0, 5, .inl fa)) :: (q11, .inl (T 0, 4, .inl fc)) :: WIN T v B O g ln un nx pl f0 f1 f2) := hD
                            refine endI (r := 0) (by rw [e8]; decide) ?_
                            refine lv_istore (lv' := [(14, .int (0)), (13, .int (0)), (12, .int (0)), (11, .int (1)), (10, .int (nI k)), (9, .int (1)), (8, .int (nI b1)), (7, .int (nI b0)), (6, .int (wt)), (5, .int (ag)), (4, .ref (q15)), (3, .ref (q11)), (2, .int (nI K)), (1, .int (nI N)), (0, .ref (v 0))]) hx hb dL_books_152 hl (by decide) rfl (fun ls hl => ?_)
                            refine lv_aload_n hx hb dL_books_154 rfl (lv_at hl 14 rfl) ?_
                            refine lv_bipush (v := 26) hx hb dL_books_155 (by decide) ?_
                            refine lv_iload hx hb dL_books_157 (lv_at hl 4 rfl) ?_
                            refine lqSi (As := [.ref (v 0), .int (26), .int (nI k)]) (rest := []) ⟨hx, hb, hml, hown, hts⟩ (c_ask_filedIn l hl9 D T aK aV v B O g ln un nx pl f0 f1 f2 k N K C nt hOI (by omega) _) (va_cwS 3 hts (gC gl_L_call__) rfl rfl rfl (by decide +kernel) ⟨Nat.le_of_ble_eq_true rfl, Nat.le_of_ble_eq_true rfl⟩) (Foc.pre [(q15, .inl (T 0, 5, .inl fa)), (q11, .inl (T 0, 4, .inl fc))] _ _) hC hNC hK hP hD hS hA rfl hl.1 rfl (Nat.le_of_ble_eq_true rfl) ⟨by show _ ≤ 2200; omega, by show _ ≤ 13200; omega⟩ dL_books_159 (fun H locs hP hD hS => ?_)
                            have hP : va_P D vwCl ((q15, .inl (T 0, 5, .inl fa)) :: (q11, .inl (T 0, 4, .inl fc)) :: WIN T v B O g ln un nx pl f0 f1 f2) H := hP
                            have hD : va_D A ((q15, .inl (T 0, 5, .inl fa)) :: (q11, .inl (T 0, 4, .inl fc)) :: WIN T v B O g ln un nx pl f0 f1 f2) := hD
                            refine endI (r := nI ff) (e7) ?_
                            refine lv_istore (lv' := [(15, .int (nI ff)), (14, .int (0)), (13, .int (0)), (12, .int (0)), (11, .int (1)), (10, .int (nI k)), (9, .int (1)), (8, .int (nI b1)), (7, .int (nI b0)), (6, .int (wt)), (5, .int (ag)), (4, .ref (q15)), (3, .ref (q11)), (2, .int (nI K)), (1, .int (nI N)), (0, .ref (v 0))]) hx hb dL_books_162 hl (by decide) rfl (fun ls hl => ?_)
                            refine lv_aload_n hx hb dL_books_164 rfl (lv_at hl 15 rfl) ?_
                            refine lv_bipush (v := 31) hx hb dL_books_165 (by decide) ?_
                            refine lv_iload hx hb dL_books_167 (lv_at hl 5 rfl) ?_
                            refine lqSi (As := [.ref (v 0), .int (31), .int (nI k)]) (rest := []) ⟨hx, hb, hml, hown, hts⟩ (c_ask_closedIn l hl9 D T aK aV v B O g ln un nx pl f0 f1 f2 k N K C nt hOI (by omega) _) (va_cwS 3 hts (gC gl_L_call__) rfl rfl rfl (by decide +kernel) ⟨Nat.le_of_ble_eq_true rfl, Nat.le_of_ble_eq_true rfl⟩) (Foc.pre [(q15, .inl (T 0, 5, .inl fa)), (q11, .inl (T 0, 4, .inl fc))] _ _) hC hNC hK hP hD hS hA rfl hl.1 rfl (Nat.le_of_ble_eq_true rfl) ⟨by show _ ≤ 2200; omega, by show _ ≤ 13200; omega⟩ dL_books_169 (fun H locs hP hD hS => ?_)
                            have hP : va_P D vwCl ((q15, .inl (T 0, 5, .inl fa)) :: (q11, .inl (T 0, 4, .inl fc)) :: WIN T v B O g ln un nx pl f0 f1 f2) H := hP
                            have hD : va_D A ((q15, .inl (T 0, 5, .inl fa)) :: (q11, .inl (T 0, 4, .inl fc)) :: WIN T v B O g ln un nx pl f0 f1 f2) := hD
                            refine endI (r := -101) (if_pos e8) ?_
                            refine lv_istore (lv' := [(16, .int (-101)), (15, .int (nI ff)), (14, .int (0)), (13, .int (0)), (12, .int (0)), (11, .int (1)), (10, .int (nI k)), (9, .int (1)), (8, .int (nI b1)), (7, .int (nI b0)), (6, .int (wt)), (5, .int (ag)), (4, .ref (q15)), (3, .ref (q11)), (2, .int (nI K)), (1, .int (nI N)), (0, .ref (v 0))]) hx hb dL_books_172 hl (by decide) rfl (fun ls hl => ?_)
                            refine lv_aload_n hx hb dL_books_174 rfl (lv_at hl 16 rfl) ?_
                            refine lv_bipush (v := 32) hx hb dL_books_175 (by decide) ?_
                            refine lv_iload hx hb dL_books_177 (lv_at hl 6 rfl) ?_
                            refine lqSi (As := [.ref (v 0), .int (32), .int (nI k)]) (rest := []) ⟨hx, hb, hml, hown, hts⟩ (c_ask_clerkOf l hl9 D T aK aV v B O g ln un nx pl f0 f1 f2 k N K C nt hOI (by omega) _) (va_cwS 3 hts (gC gl_L_call__) rfl rfl rfl (by decide +kernel) ⟨Nat.le_of_ble_eq_true rfl, Nat.le_of_ble_eq_true rfl⟩) (Foc.pre [(q15, .inl (T 0, 5, .inl fa)), (q11, .inl (T 0, 4, .inl fc))] _ _) hC hNC hK hP hD hS hA rfl hl.1 rfl (Nat.le_of_ble_eq_true rfl) ⟨by show _ ≤ 2200; omega, by show _ ≤ 13200; omega⟩ dL_books_179 (fun H locs hP hD hS => ?_)
                            have hP : va_P D vwCl ((q15, .inl (T 0, 5, .inl fa)) :: (q11, .inl (T 0, 4, .inl fc)) :: WIN T v B O g ln un nx pl f0 f1 f2) H := hP
                            have hD : va_D A ((q15, .inl (T 0, 5, .inl fa)) :: (q11, .inl (T 0, 4, .inl fc)) :: WIN T v B O g ln un nx pl f0 f1 f2) := hD
                            refine endI (r := -101) (if_pos e10) ?_
                            refine lv_istore (lv' := [(17, .int (-101)), (16, .int (-101)), (15, .int (nI ff)), (14, .int (0)), (13, .int (0)), (12, .int (0)), (11, .int (1)), (10, .int (nI k)), (9, .int (1)), (8, .int (nI b1)), (7, .int (nI b0)), (6, .int (wt)), (5, .int (ag)), (4, .ref (q15)), (3, .ref (q11)), (2, .int (nI K)), (1, .int (nI N)), (0, .ref (v 0))]) hx hb dL_books_182 hl (by decide) rfl (fun ls hl => ?_)
                            refine lv_aload_n hx hb dL_books_184 rfl (lv_at hl 17 rfl) ?_
                            refine lv_bipush (v := 25) hx hb dL_books_185 (by decide) ?_
                            refine lv_iload hx hb dL_books_187 (lv_at hl 7 rfl) ?_
                            refine lqSi (As := [.ref (v 0), .int (25), .int (nI k)]) (rest := []) ⟨hx, hb, hml, hown, hts⟩ (c_ask_angerOf l hl9 D T aK aV v B O g ln un nx pl f0 f1 f2 k N K C nt hOI (by omega) _) (va_cwS 3 hts (gC gl_L_call__) rfl rfl rfl (by decide +kernel) ⟨Nat.le_of_ble_eq_true rfl, Nat.le_of_ble_eq_true rfl⟩) (Foc.pre [(q15, .inl (T 0, 5, .inl fa)), (q11, .inl (T 0, 4, .inl fc))] _ _) hC hNC hK hP hD hS hA rfl hl.1 rfl (Nat.le_of_ble_eq_true rfl) ⟨by show _ ≤ 2200; omega, by show _ ≤ 13200; omega⟩ dL_books_189 (fun H locs hP hD hS => ?_)
                            have hP : va_P D vwCl ((q15, .inl (T 0, 5, .inl fa)) :: (q11, .inl (T 0, 4, .inl fc)) :: WIN T v B O g ln un nx pl f0 f1 f2) H := hP
                            have hD : va_D A ((q15, .inl (T 0, 5, .inl fa)) :: (q11, .inl (T 0, 4, .inl fc)) :: WIN T v B O g ln un nx pl f0 f1 f2) := hD
                            refine endI (r := nI aa) (e6) ?_
                            refine lv_istore (lv' := [(18, .int (nI aa)), (17, .int (-101)), (16, .int (-101)), (15, .int (nI ff)), (14, .int (0)), (13, .int (0)), (12, .int (0)), (11, .int (1)), (10, .int (nI k)), (9, .int (1)), (8, .int (nI b1)), (7, .int (nI b0)), (6, .int (wt)), (5, .int (ag)), (4, .ref (q15)), (3, .ref (q11)), (2, .int (nI K)), (1, .int (nI N)), (0, .ref (v 0))]) hx hb dL_books_192 hl (by decide) rfl (fun ls hl => ?_)
                            refine lv_iload hx hb dL_books_194 (lv_at hl 7 rfl) ?_
                            refine lv_iload hx hb dL_books_196 (lv_at hl 6 rfl) ?_
                            refine lv_iadd hx hb dL_books_198 ?_
                            refine endI (r := 1) (by decide) ?_
                            refine lv_iload hx hb dL_books_199 (lv_at hl 5 rfl) ?_
                            refine lv_iadd hx hb dL_books_201 ?_
                            refine endI (r := 1) (by decide) ?_
                            refine lv_iload hx hb dL_books_202 (lv_at hl 4 rfl) ?_
                            refine lv_iadd hx hb dL_books_204 ?_
                            refine endI (r := 1) (by decide) ?_
                            refine lv_iconst (v := 1) hx hb dL_books_205 (by decide) ?_
                            refine lv_icmp_ne (tgt := 391) hx hb dL_books_206 (by decide) (fun c206 => ?_) (fun c206 => ?_)
                            ·
                              exact absurd c206 (by decide)
                            ·
                              refine lv_iload hx hb dL_books_209 (lv_at hl 3 rfl) ?_
                              refine lv_aload_n hx hb dL_books_211 rfl (lv_at hl 18 rfl) ?_
                              refine rdV (As := []) (rest := [.int (nI ff)]) ⟨hx, hb, hml, hown, hts⟩ (c_X9_night l D T v B O g ln un nx pl f0 f1 f2 ) (cwV 0 hts (gC gl_X9_night) rfl rfl rfl (by decide +kernel) ⟨Nat.le_of_ble_eq_true rfl, Nat.le_of_ble_eq_true rfl⟩) hK (wTail (x := [(q15, .inl (T 0, 5, .inl fa)), (q11, .inl (T 0, 4, .inl fc))]) hP hD).1 0 rfl rfl rfl hl.1 rfl (Nat.le_of_ble_eq_true rfl) ⟨by show _ ≤ 2200; omega, by show _ ≤ 13200; omega⟩ dL_books_212 ?_
                              refine endI (r := nI nt) (hn) ?_
                              refine lv_icmp_gt (tgt := 391) hx hb dL_books_215 (by decide) (fun c215 => ?_) (fun c215 => ?_)
                              ·
                                have c215 : nt < ff := (nI_ltI (a := nt) (b := ff) (by omega) (by omega)).mp c215
                                exfalso; omega
                              ·
                                have c215 : ¬ nt < ff := fun h9 => c215 ((nI_ltI (a := nt) (b := ff) (by omega) (by omega)).mpr h9)
                                refine lv_iload hx hb dL_books_218 (lv_at hl 0 rfl) ?_
                                refine lv_if_le (tgt := 391) hx hb dL_books_220 (by decide) (fun c220 => ?_) (fun c220 => ?_)
                                ·
                                  have c220 : aa ≤ 0 := (nI_leI (a := aa) (b := 0) (by omega) (by omega)).mp c220
                                  exfalso; omega
                                ·
                                  have c220 : ¬ aa ≤ 0 := fun h9 => c220 ((nI_leI (a := aa) (b := 0) (by omega) (by omega)).mpr h9)
                                  refine lv_iload hx hb dL_books_223 (lv_at hl 0 rfl) ?_
                                  refine lv_bipush (v := 10) hx hb dL_books_225 (by decide) ?_
                                  refine lv_icmp_ge (tgt := 391) hx hb dL_books_227 (by decide) (fun c227 => ?_) (fun c227 => ?_)
                                  ·
                                    have c227 : 10 ≤ aa := (nI_leI (a := 10) (b := aa) (by omega) (by omega)).mp c227
                                    exfalso; omega
                                  ·
                                    have c227 : ¬ 10 ≤ aa := fun h9 => c227 ((nI_leI (a := 10) (b := aa) (by omega) (by omega)).mpr h9)
                                    refine lv_iload hx hb dL_books_230 (lv_at hl 7 rfl) ?_
                                    refine lv_iconst (v := 1) hx hb dL_books_232 (by decide) ?_
                                    refine lv_icmp_ne (tgt := 258) hx hb dL_books_233 (by decide) (fun c233 => ?_) (fun c233 => ?_)
                                    ·
                                      exact absurd c233 (by decide)
                                    ·
                                      refine lv_iload hx hb dL_books_236 (lv_at hl 2 rfl) ?_
                                      refine lv_bipush (v := -101) hx hb dL_books_238 (by decide) ?_
                                      refine lv_icmp_ne (tgt := 391) hx hb dL_books_240 (by decide) (fun c240 => ?_) (fun c240 => ?_)
                                      ·
                                        exact absurd c240 (by decide)
                                      ·
                                        refine lv_aload_n hx hb dL_books_243 rfl (lv_at hl 18 rfl) ?_
                                        refine rdV (As := []) (rest := []) ⟨hx, hb, hml, hown, hts⟩ (c_X9_night l D T v B O g ln un nx pl f0 f1 f2 ) (cwV 0 hts (gC gl_X9_night) rfl rfl rfl (by decide +kernel) ⟨Nat.le_of_ble_eq_true rfl, Nat.le_of_ble_eq_true rfl⟩) hK (wTail (x := [(q15, .inl (T 0, 5, .inl fa)), (q11, .inl (T 0, 4, .inl fc))]) hP hD).1 0 rfl rfl rfl hl.1 rfl (Nat.le_of_ble_eq_true rfl) ⟨by show _ ≤ 2200; omega, by show _ ≤ 13200; omega⟩ dL_books_244 ?_
                                        refine endI (r := nI nt) (hn) ?_
                                        refine lv_iload hx hb dL_books_247 (lv_at hl 3 rfl) ?_
                                        refine lv_isub hx hb dL_books_249 ?_
                                        refine endI (r := nI (nt - ff)) (pk_sub (a := nt) (b := ff) (by omega)) ?_
                                        refine lv_bipush (v := 56) hx hb dL_books_250 (by decide) ?_
                                        refine lv_icmp_ge (tgt := 391) hx hb dL_books_252 (by decide) (fun c252 => ?_) (fun c252 => ?_)
                                        ·
                                          have c252 : 56 ≤ (nt - ff) := (nI_leI (a := 56) (b := (nt - ff)) (by omega) (by omega)).mp c252
                                          exfalso; omega
                                        ·
                                          have c252 : ¬ 56 ≤ (nt - ff) := fun h9 => c252 ((nI_leI (a := 56) (b := (nt - ff)) (by omega) (by omega)).mpr h9)
                                          refine lv_goto (tgt := 284) hx hb dL_books_255 (by decide) ?_
                                          refine lv_iload hx hb dL_books_284 (lv_at hl 1 rfl) ?_
                                          refine lv_bipush (v := -101) hx hb dL_books_286 (by decide) ?_
                                          refine lv_icmp_ne (tgt := 295) hx hb dL_books_288 (by decide) (fun c288 => ?_) (fun c288 => ?_)
                                          ·
                                            exact absurd c288 (by decide)
                                          ·
                                            refine lv_iconst (v := 1) hx hb dL_books_291 (by decide) ?_
                                            refine lv_goto (tgt := 296) hx hb dL_books_292 (by decide) ?_
                                            refine lv_iload hx hb dL_books_296 (lv_at hl 7 rfl) ?_
                                            refine lv_iload hx hb dL_books_298 (lv_at hl 4 rfl) ?_
                                            refine lv_iadd hx hb dL_books_300 ?_
                                            refine endI (r := 1) (by decide) ?_
                                            refine lv_iconst (v := 1) hx hb dL_books_301 (by decide) ?_
                                            refine lv_icmp_ne (tgt := 309) hx hb dL_books_302 (by decide) (fun c302 => ?_) (fun c302 => ?_)
                                            ·
                                              exact absurd c302 (by decide)
                                            ·
                                              refine lv_iconst (v := 1) hx hb dL_books_305 (by decide) ?_
                                              refine lv_goto (tgt := 310) hx hb dL_books_306 (by decide) ?_
                                              refine lv_icmp_ne (tgt := 391) hx hb dL_books_310 (by decide) (fun c310 => ?_) (fun c310 => ?_)
                                              ·
                                                exact absurd c310 (by decide)
                                              ·
                                                refine lv_iload hx hb dL_books_313 (lv_at hl 5 rfl) ?_
                                                refine lv_if_eq (tgt := 328) hx hb dL_books_315 (by decide) (fun c315 => ?_) (fun c315 => ?_)
                                                ·
                                                  refine lv_aload_n hx hb dL_books_328 rfl (lv_at hl 18 rfl) ?_
                                                  refine lv_bipush (v := 33) hx hb dL_books_329 (by decide) ?_
                                                  refine lv_aload_n hx hb dL_books_331 rfl (lv_at hl 18 rfl) ?_
                                                  refine lv_bipush (v := 23) hx hb dL_books_332 (by decide) ?_
                                                  refine lv_iload hx hb dL_books_334 (lv_at hl 8 rfl) ?_
                                                  refine lqSi (As := [.ref (v 0), .int (23), .int (nI k)]) (rest := [.int (33), .ref (v 0)]) ⟨hx, hb, hml, hown, hts⟩ (c_ask_personOf l hl9 D T aK aV v B O g ln un nx pl f0 f1 f2 k N K C nt hOI (by omega) _) (va_cwS 3 hts (gC gl_L_call__) rfl rfl rfl (by decide +kernel) ⟨Nat.le_of_ble_eq_true rfl, Nat.le_of_ble_eq_true rfl⟩) (Foc.pre [(q15, .inl (T 0, 5, .inl fa)), (q11, .inl (T 0, 4, .inl fc))] _ _) hC hNC hK hP hD hS hA rfl hl.1 rfl (Nat.le_of_ble_eq_true rfl) ⟨by show _ ≤ 2200; omega, by show _ ≤ 13200; omega⟩ dL_books_336 (fun H locs hP hD hS => ?_)
                                                  have hP : va_P D vwCl ((q15, .inl (T 0, 5, .inl fa)) :: (q11, .inl (T 0, 4, .inl fc)) :: WIN T v B O g ln un nx pl f0 f1 f2) H := hP
                                                  have hD : va_D A ((q15, .inl (T 0, 5, .inl fa)) :: (q11, .inl (T 0, 4, .inl fc)) :: WIN T v B O g ln un nx pl f0 f1 f2) := hD
                                                  refine endI (r := nI pp) (e4) ?_
                                                  refine lv_aload_n hx hb dL_books_339 rfl (lv_at hl 18 rfl) ?_
                                                  refine lv_bipush (v := 24) hx hb dL_books_340 (by decide) ?_
                                                  refine lv_iload hx hb dL_books_342 (lv_at hl 8 rfl) ?_
                                                  refine lqSi (As := [.ref (v 0), .int (24), .int (nI k)]) (rest := [.int (nI pp), .int (33), .ref (v 0)]) ⟨hx, hb, hml, hown, hts⟩ (c_ask_sortOf l hl9 D T aK aV v B O g ln un nx pl f0 f1 f2 k N K C nt hOI (by omega) _) (va_cwS 3 hts (gC gl_L_call__) rfl rfl rfl (by decide +kernel) ⟨Nat.le_of_ble_eq_true rfl, Nat.le_of_ble_eq_true rfl⟩) (Foc.pre [(q15, .inl (T 0, 5, .inl fa)), (q11, .inl (T 0, 4, .inl fc))] _ _) hC hNC hK hP hD hS hA rfl hl.1 rfl (Nat.le_of_ble_eq_true rfl) ⟨by show _ ≤ 2200; omega, by show _ ≤ 13200; omega⟩ dL_books_344 (fun H locs hP hD hS => ?_)
                                                  have hP : va_P D vwCl ((q15, .inl (T 0, 5, .inl fa)) :: (q11, .inl (T 0, 4, .inl fc)) :: WIN T v B O g ln un nx pl f0 f1 f2) H := hP
                                                  have hD : va_D A ((q15, .inl (T 0, 5, .inl fa)) :: (q11, .inl (T 0, 4, .inl fc)) :: WIN T v B O g ln un nx pl f0 f1 f2) := hD
                                                  refine endI (r := nI qq) (e5) ?_
                                                  refine lqSi (As := [.ref (v 0), .int (33), .int (nI pp), .int (nI qq)]) (rest := []) ⟨hx, hb, hml, hown, hts⟩ (c_ask_waitingOf l hl9 D T aK aV v B O g ln un nx pl f0 f1 f2 (nI pp) (nI qq) N K C nt hOI (rg_99 (by omega)) (rg_3 (by omega)) _) (va_cwS 4 hts (gC gl_L_call_) rfl rfl rfl (by decide +kernel) ⟨Nat.le_of_ble_eq_true rfl, Nat.le_of_ble_eq_true rfl⟩) (Foc.pre [(q15, .inl (T 0, 5, .inl fa)), (q11, .inl (T 0, 4, .inl fc))] _ _) hC hNC hK hP hD hS hA rfl hl.1 rfl (Nat.le_of_ble_eq_true rfl) ⟨by show _ ≤ 2200; omega, by show _ ≤ 13200; omega⟩ dL_books_347 (fun H locs hP hD hS => ?_)
                                                  have hP : va_P D vwCl ((q15, .inl (T 0, 5, .inl fa)) :: (q11, .inl (T 0, 4, .inl fc)) :: WIN T v B O g ln un nx pl f0 f1 f2) H := hP
                                                  have hD : va_D A ((q15, .inl (T 0, 5, .inl fa)) :: (q11, .inl (T 0, 4, .inl fc)) :: WIN T v B O g ln un nx pl f0 f1 f2) := hD
                                                  refine endI (r := nI k) (by rw [← e4, ← e5, find_wait hOV (by omega) e8]; rfl) ?_
                                                  refine lv_bipush (v := -104) hx hb dL_books_350 (by decide) ?_
                                                  refine lv_icmp_eq (tgt := 391) hx hb dL_books_352 (by decide) (fun c352 => ?_) (fun c352 => ?_)
                                                  ·
                                                    exact absurd c352 (nI_nneg (by omega) (by decide))
                                                  ·
                                                    refine lv_iload hx hb dL_books_355 (lv_at hl 7 rfl) ?_
                                                    refine lv_if_eq (tgt := 387) hx hb dL_books_357 (by decide) (fun c357 => ?_) (fun c357 => ?_)
                                                    ·
                                                      exact absurd c357 (by decide)
                                                    ·
                                                      refine lv_aload_n hx hb dL_books_360 rfl (lv_at hl 18 rfl) ?_
                                                      refine lv_bipush (v := 33) hx hb dL_books_361 (by decide) ?_
                                                      refine lv_aload_n hx hb dL_books_363 rfl (lv_at hl 18 rfl) ?_
                                                      refine lv_bipush (v := 23) hx hb dL_books_364 (by decide) ?_
                                                      refine lv_iload hx hb dL_books_366 (lv_at hl 8 rfl) ?_
                                                      refine lqSi (As := [.ref (v 0), .int (23), .int (nI k)]) (rest := [.int (33), .ref (v 0)]) ⟨hx, hb, hml, hown, hts⟩ (c_ask_personOf l hl9 D T aK aV v B O g ln un nx pl f0 f1 f2 k N K C nt hOI (by omega) _) (va_cwS 3 hts (gC gl_L_call__) rfl rfl rfl (by decide +kernel) ⟨Nat.le_of_ble_eq_true rfl, Nat.le_of_ble_eq_true rfl⟩) (Foc.pre [(q15, .inl (T 0, 5, .inl fa)), (q11, .inl (T 0, 4, .inl fc))] _ _) hC hNC hK hP hD hS hA rfl hl.1 rfl (Nat.le_of_ble_eq_true rfl) ⟨by show _ ≤ 2200; omega, by show _ ≤ 13200; omega⟩ dL_books_368 (fun H locs hP hD hS => ?_)
                                                      have hP : va_P D vwCl ((q15, .inl (T 0, 5, .inl fa)) :: (q11, .inl (T 0, 4, .inl fc)) :: WIN T v B O g ln un nx pl f0 f1 f2) H := hP
                                                      have hD : va_D A ((q15, .inl (T 0, 5, .inl fa)) :: (q11, .inl (T 0, 4, .inl fc)) :: WIN T v B O g ln un nx pl f0 f1 f2) := hD
                                                      refine endI (r := nI pp) (e4) ?_
                                                      refine lv_aload_n hx hb dL_books_371 rfl (lv_at hl 18 rfl) ?_
                                                      refine lv_bipush (v := 24) hx hb dL_books_372 (by decide) ?_
                                                      refine lv_iload hx hb dL_books_374 (lv_at hl 8 rfl) ?_
                                                      refine lqSi (As := [.ref (v 0), .int (24), .int (nI k)]) (rest := [.int (nI pp), .int (33), .ref (v 0)]) ⟨hx, hb, hml, hown, hts⟩ (c_ask_sortOf l hl9 D T aK aV v B O g ln un nx pl f0 f1 f2 k N K C nt hOI (by omega) _) (va_cwS 3 hts (gC gl_L_call__) rfl rfl rfl (by decide +kernel) ⟨Nat.le_of_ble_eq_true rfl, Nat.le_of_ble_eq_true rfl⟩) (Foc.pre [(q15, .inl (T 0, 5, .inl fa)), (q11, .inl (T 0, 4, .inl fc))] _ _) hC hNC hK hP hD hS hA rfl hl.1 rfl (Nat.le_of_ble_eq_true rfl) ⟨by show _ ≤ 2200; omega, by show _ ≤ 13200; omega⟩ dL_books_376 (fun H locs hP hD hS => ?_)
                                                      have hP : va_P D vwCl ((q15, .inl (T 0, 5, .inl fa)) :: (q11, .inl (T 0, 4, .inl fc)) :: WIN T v B O g ln un nx pl f0 f1 f2) H := hP
                                                      have hD : va_D A ((q15, .inl (T 0, 5, .inl fa)) :: (q11, .inl (T 0, 4, .inl fc)) :: WIN T v B O g ln un nx pl f0 f1 f2) := hD
                                                      refine endI (r := nI qq) (e5) ?_
                                                      refine lqSi (As := [.ref (v 0), .int (33), .int (nI pp), .int (nI qq)]) (rest := []) ⟨hx, hb, hml, hown, hts⟩ (c_ask_waitingOf l hl9 D T aK aV v B O g ln un nx pl f0 f1 f2 (nI pp) (nI qq) N K C nt hOI (rg_99 (by omega)) (rg_3 (by omega)) _) (va_cwS 4 hts (gC gl_L_call_) rfl rfl rfl (by decide +kernel) ⟨Nat.le_of_ble_eq_true rfl, Nat.le_of_ble_eq_true rfl⟩) (Foc.pre [(q15, .inl (T 0, 5, .inl fa)), (q11, .inl (T 0, 4, .inl fc))] _ _) hC hNC hK hP hD hS hA rfl hl.1 rfl (Nat.le_of_ble_eq_true rfl) ⟨by show _ ≤ 2200; omega, by show _ ≤ 13200; omega⟩ dL_books_379 (fun H locs hP hD hS => ?_)
                                                      have hP : va_P D vwCl ((q15, .inl (T 0, 5, .inl fa)) :: (q11, .inl (T 0, 4, .inl fc)) :: WIN T v B O g ln un nx pl f0 f1 f2) H := hP
                                                      have hD : va_D A ((q15, .inl (T 0, 5, .inl fa)) :: (q11, .inl (T 0, 4, .inl fc)) :: WIN T v B O g ln un nx pl f0 f1 f2) := hD
                                                      refine endI (r := nI k) (by rw [← e4, ← e5, find_wait hOV (by omega) e8]; rfl) ?_
                                                      refine lv_iload hx hb dL_books_382 (lv_at hl 8 rfl) ?_
                                                      refine lv_icmp_ne (tgt := 391) hx hb dL_books_384 (by decide) (fun c384 => ?_) (fun c384 => ?_)
                                                      ·
                                                        exact absurd rfl c384
                                                      ·
                                                        refine lv_iconst (v := 1) hx hb dL_books_387 (by decide) ?_
                                                        refine lv_goto (tgt := 392) hx hb dL_books_388 (by decide) ?_
                                                        refine lv_istore (lv' := [(9, .int (1)), (18, .int (nI aa)), (17, .int (-101)), (16, .int (-101)), (15, .int (nI ff)), (14, .int (0)), (13, .int (0)), (12, .int (0)), (11, .int (1)), (10, .int (nI k)), (8, .int (nI b1)), (7, .int (nI b0)), (6, .int (wt)), (5, .int (ag)), (4, .ref (q15)), (3, .ref (q11)), (2, .int (nI K)), (1, .int (nI N)), (0, .ref (v 0))]) hx hb dL_books_392 hl (by decide) rfl (fun ls hl => ?_)
                                                        refine lv_aload_n hx hb dL_books_394 rfl (lv_at hl 15 rfl) ?_
                                                        refine lv_iload hx hb dL_books_395 (lv_at hl 7 rfl) ?_
                                                        refine lv_iconst (v := 2) hx hb dL_books_397 (by decide) ?_
                                                        refine lv_iload hx hb dL_books_398 (lv_at hl 6 rfl) ?_
                                                        refine lv_imul hx hb dL_books_400 ?_
                                                        refine endI (r := 0) (by decide) ?_
                                                        refine lv_iadd hx hb dL_books_401 ?_
                                                        refine endI (r := 0) (by decide) ?_
                                                        refine lv_iconst (v := 3) hx hb dL_books_402 (by decide) ?_
                                                        refine lv_iload hx hb dL_books_403 (lv_at hl 5 rfl) ?_
                                                        refine lv_imul hx hb dL_books_405 ?_
                                                        refine endI (r := 0) (by decide) ?_
                                                        refine lv_iadd hx hb dL_books_406 ?_
                                                        refine endI (r := 0) (by decide) ?_
                                                        refine lv_dup2_11 hx hb dL_books_407 rfl rfl ?_
                                                        refine aldI hx hb hK hP 1 0 rfl rfl (0) rfl (by omega) (by decide) dL_books_408 ?_
                                                        refine lv_iconst (v := 1) hx hb dL_books_409 (by decide) ?_
                                                        refine lv_iadd hx hb dL_books_410 ?_
                                                        refine astI hx hb hK hP hD hS 1 0 rfl rfl (0) rfl (by omega) (by decide) dL_books_411 (fun H locs hP hD hS => ?_)
                                                        have hP : va_P D vwCl ((q15, .inl (T 0, 5, .inl fa)) :: (q11, .inl (T 0, 4, .inl (va_up fc 0 ((fc 0) + 1)))) :: WIN T v B O g ln un nx pl f0 f1 f2) H := hP
                                                        have hD : va_D A ((q15, .inl (T 0, 5, .inl fa)) :: (q11, .inl (T 0, 4, .inl (va_up fc 0 ((fc 0) + 1)))) :: WIN T v B O g ln un nx pl f0 f1 f2) := hD
                                                        refine lv_iload hx hb dL_books_412 (lv_at hl 7 rfl) ?_
                                                        refine lv_iconst (v := 1) hx hb dL_books_414 (by decide) ?_
                                                        refine lv_icmp_ne (tgt := 444) hx hb dL_books_415 (by decide) (fun c415 => ?_) (fun c415 => ?_)
                                                        ·
                                                          refine lv_iload hx hb dL_books_444 (lv_at hl 8 rfl) ?_
                                                          refine lv_if_ne (tgt := 452) hx hb dL_books_446 (by decide) (fun c446 => ?_) (fun c446 => ?_)
                                                          ·
                                                            refine lv_iload hx hb dL_books_452 (lv_at hl 11 rfl) ?_
                                                            refine lv_if_lt (tgt := 470) hx hb dL_books_454 (by decide) (fun c454 => ?_) (fun c454 => ?_)
                                                            ·
                                                              have c454 : b0 < 0 := (nI_ltI (a := b0) (b := 0) (by omega) (by omega)).mp c454
                                                              exfalso; omega
                                                            ·
                                                              have c454 : ¬ b0 < 0 := fun h9 => c454 ((nI_ltI (a := b0) (b := 0) (by omega) (by omega)).mpr h9)
                                                              refine lv_iload hx hb dL_books_457 (lv_at hl 4 rfl) ?_
                                                              refine lv_aload_n hx hb dL_books_459 rfl (lv_at hl 18 rfl) ?_
                                                              refine lv_bipush (v := 26) hx hb dL_books_460 (by decide) ?_
                                                              refine lv_iload hx hb dL_books_462 (lv_at hl 11 rfl) ?_
                                                              refine lqSi (As := [.ref (v 0), .int (26), .int (nI b0)]) (rest := [.int (nI ff)]) ⟨hx, hb, hml, hown, hts⟩ (c_ask_filedIn l hl9 D T aK aV v B O g ln un nx pl f0 f1 f2 b0 N K C nt hOI (by omega) _) (va_cwS 3 hts (gC gl_L_call__) rfl rfl rfl (by decide +kernel) ⟨Nat.le_of_ble_eq_true rfl, Nat.le_of_ble_eq_true rfl⟩) (Foc.pre [(q15, .inl (T 0, 5, .inl fa)), (q11, .inl (T 0, 4, .inl (va_up fc 0 ((fc 0) + 1))))] _ _) hC hNC hK hP hD hS hA rfl hl.1 rfl (Nat.le_of_ble_eq_true rfl) ⟨by show _ ≤ 2200; omega, by show _ ≤ 13200; omega⟩ dL_books_464 (fun H locs hP hD hS => ?_)
                                                              have hP : va_P D vwCl ((q15, .inl (T 0, 5, .inl fa)) :: (q11, .inl (T 0, 4, .inl (va_up fc 0 ((fc 0) + 1)))) :: WIN T v B O g ln un nx pl f0 f1 f2) H := hP
                                                              have hD : va_D A ((q15, .inl (T 0, 5, .inl fa)) :: (q11, .inl (T 0, 4, .inl (va_up fc 0 ((fc 0) + 1)))) :: WIN T v B O g ln un nx pl f0 f1 f2) := hD
                                                              refine lv_icmp_ge (tgt := 474) hx hb dL_books_467 (by decide) (fun c467 => ?_) (fun c467 => ?_)
                                                              ·
                                                                refine lv_iload hx hb dL_books_474 (lv_at hl 10 rfl) ?_
                                                                refine lv_if_lt (tgt := 492) hx hb dL_books_476 (by decide) (fun c476 => ?_) (fun c476 => ?_)
                                                                ·
                                                                  have c476 : b1 < 0 := (nI_ltI (a := b1) (b := 0) (by omega) (by omega)).mp c476
                                                                  exfalso; omega
                                                                ·
                                                                  have c476 : ¬ b1 < 0 := fun h9 => c476 ((nI_ltI (a := b1) (b := 0) (by omega) (by omega)).mpr h9)
                                                                  refine lv_iload hx hb dL_books_479 (lv_at hl 1 rfl) ?_
                                                                  refine lv_aload_n hx hb dL_books_481 rfl (lv_at hl 18 rfl) ?_
                                                                  refine lv_bipush (v := 25) hx hb dL_books_482 (by decide) ?_
                                                                  refine lv_iload hx hb dL_books_484 (lv_at hl 10 rfl) ?_
                                                                  refine lqSi (As := [.ref (v 0), .int (25), .int (nI b1)]) (rest := [.int (nI aa)]) ⟨hx, hb, hml, hown, hts⟩ (c_ask_angerOf l hl9 D T aK aV v B O g ln un nx pl f0 f1 f2 b1 N K C nt hOI (by omega) _) (va_cwS 3 hts (gC gl_L_call__) rfl rfl rfl (by decide +kernel) ⟨Nat.le_of_ble_eq_true rfl, Nat.le_of_ble_eq_true rfl⟩) (Foc.pre [(q15, .inl (T 0, 5, .inl fa)), (q11, .inl (T 0, 4, .inl (va_up fc 0 ((fc 0) + 1))))] _ _) hC hNC hK hP hD hS hA rfl hl.1 rfl (Nat.le_of_ble_eq_true rfl) ⟨by show _ ≤ 2200; omega, by show _ ≤ 13200; omega⟩ dL_books_486 (fun H locs hP hD hS => ?_)
                                                                  have hP : va_P D vwCl ((q15, .inl (T 0, 5, .inl fa)) :: (q11, .inl (T 0, 4, .inl (va_up fc 0 ((fc 0) + 1)))) :: WIN T v B O g ln un nx pl f0 f1 f2) H := hP
                                                                  have hD : va_D A ((q15, .inl (T 0, 5, .inl fa)) :: (q11, .inl (T 0, 4, .inl (va_up fc 0 ((fc 0) + 1)))) :: WIN T v B O g ln un nx pl f0 f1 f2) := hD
                                                                  refine lv_icmp_le (tgt := 496) hx hb dL_books_489 (by decide) (fun c489 => ?_) (fun c489 => ?_)
                                                                  ·
                                                                    refine lv_iinc (v := nI (k + 1)) (lv' := [(10, .int (nI (k + 1))), (9, .int (1)), (18, .int (nI aa)), (17, .int (-101)), (16, .int (-101)), (15, .int (nI ff)), (14, .int (0)), (13, .int (0)), (12, .int (0)), (11, .int (1)), (8, .int (nI b1)), (7, .int (nI b0)), (6, .int (wt)), (5, .int (ag)), (4, .ref (q15)), (3, .ref (q11)), (2, .int (nI K)), (1, .int (nI N)), (0, .ref (v 0))]) hx hb dL_books_496 hl (k := 9) rfl (nI_1 _) (by decide) rfl (fun ls hl => ?_)
                                                                    refine lv_goto (tgt := 103) hx hb dL_books_499 (by decide) ?_
                                                                    exact ih103 (k + 1) (va_up fc 0 ((fc 0) + 1)) fa ag wt (some b0) (some b1) _ _ (by omega) (by omega) (by first | exact cnt_upd 0 (by omega) e8 (by omega) hfc | exact cnt_upd 1 (by omega) e8 (by omega) hfc | exact cnt_upd 2 (by omega) e8 (by omega) hfc | exact cnt_upd 3 (by omega) e8 (by omega) hfc) (by first | exact ans_yes e8 e10 hjj hK2 (by omega) hfa | exact ans_no (by rw [e8]; decide) (by omega) hfa) (by first | exact sum_yes e8 e6 (by omega) hag | exact sum_no (by rw [e8]; decide) (by omega) hag) (by first | exact sum_yes e8 (by rw [e9, e7]; exact pk_sub (by omega)) (by omega) hwt | exact sum_no (by rw [e8]; decide) (by omega) hwt) (by first | exact best_no (decide_eq_false (by rw [e8]; decide)) (by omega) hbo | exact best_new (decide_eq_true e8) (by omega) hbo | exact best_beat (decide_eq_true e8) (decide_eq_true (by rw [e7]; exact Int32.not_le.mp c467)) (by omega) hbo | exact best_stay (decide_eq_true e8) (decide_eq_false (by rw [e7]; exact Int32.not_lt.mpr c467)) (by omega) hbo) (by first | exact best_no (decide_eq_false (by rw [e8]; decide)) (by omega) hba | exact best_new (decide_eq_true e8) (by omega) hba | exact best_beat (decide_eq_true e8) (decide_eq_true (by rw [e6]; exact Int32.not_le.mp c489)) (by omega) hba | exact best_stay (decide_eq_true e8) (decide_eq_false (by rw [e6]; exact Int32.not_lt.mpr c489)) (by omega) hba) (by intro j h; first | (cases h; omega) | exact hbo2 j h) (by intro j h; first | (cases h; omega) | exact hba2 j h) (by omega) (by omega) _ _ _ hP hD hS (lv_sub hl [0, 1, 10, 11, 12, 13, 14, 15, 16, 17, 18] rfl)
                                                                  ·
                                                                    refine lv_iload hx hb dL_books_492 (lv_at hl 9 rfl) ?_
                                                                    refine lv_istore (lv' := [(8, .int (nI k)), (9, .int (1)), (18, .int (nI aa)), (17, .int (-101)), (16, .int (-101)), (15, .int (nI ff)), (14, .int (0)), (13, .int (0)), (12, .int (0)), (11, .int (1)), (10, .int (nI k)), (7, .int (nI b0)), (6, .int (wt)), (5, .int (ag)), (4, .ref (q15)), (3, .ref (q11)), (2, .int (nI K)), (1, .int (nI N)), (0, .ref (v 0))]) hx hb dL_books_494 hl (by decide) rfl (fun ls hl => ?_)
                                                                    refine lv_iinc (v := nI (k + 1)) (lv' := [(10, .int (nI (k + 1))), (8, .int (nI k)), (9, .int (1)), (18, .int (nI aa)), (17, .int (-101)), (16, .int (-101)), (15, .int (nI ff)), (14, .int (0)), (13, .int (0)), (12, .int (0)), (11, .int (1)), (7, .int (nI b0)), (6, .int (wt)), (5, .int (ag)), (4, .ref (q15)), (3, .ref (q11)), (2, .int (nI K)), (1, .int (nI N)), (0, .ref (v 0))]) hx hb dL_books_496 hl (k := 10) rfl (nI_1 _) (by decide) rfl (fun ls hl => ?_)
                                                                    refine lv_goto (tgt := 103) hx hb dL_books_499 (by decide) ?_
                                                                    exact ih103 (k + 1) (va_up fc 0 ((fc 0) + 1)) fa ag wt (some b0) (some k) _ _ (by omega) (by omega) (by first | exact cnt_upd 0 (by omega) e8 (by omega) hfc | exact cnt_upd 1 (by omega) e8 (by omega) hfc | exact cnt_upd 2 (by omega) e8 (by omega) hfc | exact cnt_upd 3 (by omega) e8 (by omega) hfc) (by first | exact ans_yes e8 e10 hjj hK2 (by omega) hfa | exact ans_no (by rw [e8]; decide) (by omega) hfa) (by first | exact sum_yes e8 e6 (by omega) hag | exact sum_no (by rw [e8]; decide) (by omega) hag) (by first | exact sum_yes e8 (by rw [e9, e7]; exact pk_sub (by omega)) (by omega) hwt | exact sum_no (by rw [e8]; decide) (by omega) hwt) (by first | exact best_no (decide_eq_false (by rw [e8]; decide)) (by omega) hbo | exact best_new (decide_eq_true e8) (by omega) hbo | exact best_beat (decide_eq_true e8) (decide_eq_true (by rw [e7]; exact Int32.not_le.mp c467)) (by omega) hbo | exact best_stay (decide_eq_true e8) (decide_eq_false (by rw [e7]; exact Int32.not_lt.mpr c467)) (by omega) hbo) (by first | exact best_no (decide_eq_false (by rw [e8]; decide)) (by omega) hba | exact best_new (decide_eq_true e8) (by omega) hba | exact best_beat (decide_eq_true e8) (decide_eq_true (by rw [e6]; exact Int32.not_le.mp c489)) (by omega) hba | exact best_stay (decide_eq_true e8) (decide_eq_false (by rw [e6]; exact Int32.not_lt.mpr c489)) (by omega) hba) (by intro j h; first | (cases h; omega) | exact hbo2 j h) (by intro j h; first | (cases h; omega) | exact hba2 j h) (by omega) (by omega) _ _ _ hP hD hS (lv_sub hl [0, 2, 1, 11, 12, 13, 14, 15, 16, 17, 18] rfl)
                                                              ·
                                                                refine lv_iload hx hb dL_books_470 (lv_at hl 9 rfl) ?_
                                                                refine lv_istore (lv' := [(7, .int (nI k)), (9, .int (1)), (18, .int (nI aa)), (17, .int (-101)), (16, .int (-101)), (15, .int (nI ff)), (14, .int (0)), (13, .int (0)), (12, .int (0)), (11, .int (1)), (10, .int (nI k)), (8, .int (nI b1)), (6, .int (wt)), (5, .int (ag)), (4, .ref (q15)), (3, .ref (q11)), (2, .int (nI K)), (1, .int (nI N)), (0, .ref (v 0))]) hx hb dL_books_472 hl (by decide) rfl (fun ls hl => ?_)
                                                                refine lv_iload hx hb dL_books_474 (lv_at hl 11 rfl) ?_
                                                                refine lv_if_lt (tgt := 492) hx hb dL_books_476 (by decide) (fun c476 => ?_) (fun c476 => ?_)
                                                                ·
                                                                  have c476 : b1 < 0 := (nI_ltI (a := b1) (b := 0) (by omega) (by omega)).mp c476
                                                                  exfalso; omega
                                                                ·
                                                                  have c476 : ¬ b1 < 0 := fun h9 => c476 ((nI_ltI (a := b1) (b := 0) (by omega) (by omega)).mpr h9)
                                                                  refine lv_iload hx hb dL_books_479 (lv_at hl 2 rfl) ?_
                                                                  refine lv_aload_n hx hb dL_books_481 rfl (lv_at hl 18 rfl) ?_
                                                                  refine lv_bipush (v := 25) hx hb dL_books_482 (by decide) ?_
                                                                  refine lv_iload hx hb dL_books_484 (lv_at hl 11 rfl) ?_
                                                                  refine lqSi (As := [.ref (v 0), .int (25), .int (nI b1)]) (rest := [.int (nI aa)]) ⟨hx, hb, hml, hown, hts⟩ (c_ask_angerOf l hl9 D T aK aV v B O g ln un nx pl f0 f1 f2 b1 N K C nt hOI (by omega) _) (va_cwS 3 hts (gC gl_L_call__) rfl rfl rfl (by decide +kernel) ⟨Nat.le_of_ble_eq_true rfl, Nat.le_of_ble_eq_true rfl⟩) (Foc.pre [(q15, .inl (T 0, 5, .inl fa)), (q11, .inl (T 0, 4, .inl (va_up fc 0 ((fc 0) + 1))))] _ _) hC hNC hK hP hD hS hA rfl hl.1 rfl (Nat.le_of_ble_eq_true rfl) ⟨by show _ ≤ 2200; omega, by show _ ≤ 13200; omega⟩ dL_books_486 (fun H locs hP hD hS => ?_)
                                                                  have hP : va_P D vwCl ((q15, .inl (T 0, 5, .inl fa)) :: (q11, .inl (T 0, 4, .inl (va_up fc 0 ((fc 0) + 1)))) :: WIN T v B O g ln un nx pl f0 f1 f2) H := hP
                                                                  have hD : va_D A ((q15, .inl (T 0, 5, .inl fa)) :: (q11, .inl (T 0, 4, .inl (va_up fc 0 ((fc 0) + 1)))) :: WIN T v B O g ln un nx pl f0 f1 f2) := hD
                                                                  refine lv_icmp_le (tgt := 496) hx hb dL_books_489 (by decide) (fun c489 => ?_) (fun c489 => ?_)
                                                                  ·
                                                                    refine lv_iinc (v := nI (k + 1)) (lv' := [(10, .int (nI (k + 1))), (7, .int (nI k)), (9, .int (1)), (18, .int (nI aa)), (17, .int (-101)), (16, .int (-101)), (15, .int (nI ff)), (14, .int (0)), (13, .int (0)), (12, .int (0)), (11, .int (1)), (8, .int (nI b1)), (6, .int (wt)), (5, .int (ag)), (4, .ref (q15)), (3, .ref (q11)), (2, .int (nI K)), (1, .int (nI N)), (0, .ref (v 0))]) hx hb dL_books_496 hl (k := 10) rfl (nI_1 _) (by decide) rfl (fun ls hl => ?_)
                                                                    refine lv_goto (tgt := 103) hx hb dL_books_499 (by decide) ?_
                                                                    exact ih103 (k + 1) (va_up fc 0 ((fc 0) + 1)) fa ag wt (some k) (some b1) _ _ (by omega) (by omega) (by first | exact cnt_upd 0 (by omega) e8 (by omega) hfc | exact cnt_upd 1 (by omega) e8 (by omega) hfc | exact cnt_upd 2 (by omega) e8 (by omega) hfc | exact cnt_upd 3 (by omega) e8 (by omega) hfc) (by first | exact ans_yes e8 e10 hjj hK2 (by omega) hfa | exact ans_no (by rw [e8]; decide) (by omega) hfa) (by first | exact sum_yes e8 e6 (by omega) hag | exact sum_no (by rw [e8]; decide) (by omega) hag) (by first | exact sum_yes e8 (by rw [e9, e7]; exact pk_sub (by omega)) (by omega) hwt | exact sum_no (by rw [e8]; decide) (by omega) hwt) (by first | exact best_no (decide_eq_false (by rw [e8]; decide)) (by omega) hbo | exact best_new (decide_eq_true e8) (by omega) hbo | exact best_beat (decide_eq_true e8) (decide_eq_true (by rw [e7]; exact Int32.not_le.mp c467)) (by omega) hbo | exact best_stay (decide_eq_true e8) (decide_eq_false (by rw [e7]; exact Int32.not_lt.mpr c467)) (by omega) hbo) (by first | exact best_no (decide_eq_false (by rw [e8]; decide)) (by omega) hba | exact best_new (decide_eq_true e8) (by omega) hba | exact best_beat (decide_eq_true e8) (decide_eq_true (by rw [e6]; exact Int32.not_le.mp c489)) (by omega) hba | exact best_stay (decide_eq_true e8) (decide_eq_false (by rw [e6]; exact Int32.not_lt.mpr c489)) (by omega) hba) (by intro j h; first | (cases h; omega) | exact hbo2 j h) (by intro j h; first | (cases h; omega) | exact hba2 j h) (by omega) (by omega) _ _ _ hP hD hS (lv_sub hl [0, 2, 11, 1, 12, 13, 14, 15, 16, 17, 18] rfl)
                                                                  ·
                                                                    refine lv_iload hx hb dL_books_492 (lv_at hl 10 rfl) ?_
                                                                    refine lv_istore (lv' := [(8, .int (nI k)), (7, .int (nI k)), (9, .int (1)), (18, .int (nI aa)), (17, .int (-101)), (16, .int (-101)), (15, .int (nI ff)), (14, .int (0)), (13, .int (0)), (12, .int (0)), (11, .int (1)), (10, .int (nI k)), (6, .int (wt)), (5, .int (ag)), (4, .ref (q15)), (3, .ref (q11)), (2, .int (nI K)), (1, .int (nI N)), (0, .ref (v 0))]) hx hb dL_books_494 hl (by decide) rfl (fun ls hl => ?_)
                                                                    refine lv_iinc (v := nI (k + 1)) (lv' := [(10, .int (nI (k + 1))), (8, .int (nI k)), (7, .int (nI k)), (9, .int (1)), (18, .int (nI aa)), (17, .int (-101)), (16, .int (-101)), (15, .int (nI ff)), (14, .int (0)), (13, .int (0)), (12, .int (0)), (11, .int (1)), (6, .int (wt)), (5, .int (ag)), (4, .ref (q15)), (3, .ref (q11)), (2, .int (nI K)), (1, .int (nI N)), (0, .ref (v 0))]) hx hb dL_books_496 hl (k := 11) rfl (nI_1 _) (by decide) rfl (fun ls hl => ?_)
                                                                    refine lv_goto (tgt := 103) hx hb dL_books_499 (by decide) ?_
                                                                    exact ih103 (k + 1) (va_up fc 0 ((fc 0) + 1)) fa ag wt (some k) (some k) _ _ (by omega) (by omega) (by first | exact cnt_upd 0 (by omega) e8 (by omega) hfc | exact cnt_upd 1 (by omega) e8 (by omega) hfc | exact cnt_upd 2 (by omega) e8 (by omega) hfc | exact cnt_upd 3 (by omega) e8 (by omega) hfc) (by first | exact ans_yes e8 e10 hjj hK2 (by omega) hfa | exact ans_no (by rw [e8]; decide) (by omega) hfa) (by first | exact sum_yes e8 e6 (by omega) hag | exact sum_no (by rw [e8]; decide) (by omega) hag) (by first | exact sum_yes e8 (by rw [e9, e7]; exact pk_sub (by omega)) (by omega) hwt | exact sum_no (by rw [e8]; decide) (by omega) hwt) (by first | exact best_no (decide_eq_false (by rw [e8]; decide)) (by omega) hbo | exact best_new (decide_eq_true e8) (by omega) hbo | exact best_beat (decide_eq_true e8) (decide_eq_true (by rw [e7]; exact Int32.not_le.mp c467)) (by omega) hbo | exact best_stay (decide_eq_true e8) (decide_eq_false (by rw [e7]; exact Int32.not_lt.mpr c467)) (by omega) hbo) (by first | exact best_no (decide_eq_false (by rw [e8]; decide)) (by omega) hba | exact best_new (decide_eq_true e8) (by omega) hba | exact best_beat (decide_eq_true e8) (decide_eq_true (by rw [e6]; exact Int32.not_le.mp c489)) (by omega) hba | exact best_stay (decide_eq_true e8) (decide_eq_false (by rw [e6]; exact Int32.not_lt.mpr c489)) (by omega) hba) (by intro j h; first | (cases h; omega) | exact hbo2 j h) (by intro j h; first | (cases h; omega) | exact hba2 j h) (by omega) (by omega) _ _ _ hP hD hS (lv_sub hl [0, 3, 1, 2, 12, 13, 14, 15, 16, 17, 18] rfl)
                                                          ·
                                                            exact absurd c446 (by decide)
                                                        ·
                                                          exact absurd c415 (by decide)
                                                ·
                                                  exact absurd c315 (by decide)
                exact L103 _ 0 (fun _ => 0) (fun _ => 0) 0 0 none none _ _ (Nat.lt_succ_self _) (by omega) (by intro i hi; rfl) (by intro i hi; rfl) (by rfl) (by rfl) (by rfl) (by rfl) (by intro j h; cases h) (by intro j h; cases h) (by omega) (by omega) _ _ _ hP hD hS (lv_sub hl [0, 1, 2, 3, 4, 5, 6, 7, 8, 9, 10] rfl)
  exact hgo _ _ hP hS
