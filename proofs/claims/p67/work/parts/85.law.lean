/-! the law itself -/
theorem gj85S_RL_301_L_window : GoodIn gJ (va_wsS RL 301 yL_window vtL_window) := show GoodIn gJ ([Cond.methodLink RL 301 yL_window, Cond.static yL_window, Cond.initialized RL] ++ vtL_window) from goodIn_app (gconJ (gJ_of mw_1169 rfl) rfl (gconJ (gJ_of mw_1170 rfl) rfl (gconJ (gJ_of mw_1042 rfl) rfl (gnilJ)))) gw_vtL_window
theorem perm3 (r q a : Nat × va_E) (w : va_W) : (r :: q :: a :: w).Perm (a :: r :: q :: w) := List.perm_middle (l₁ := [r, q]) (a := a) (l₂ := w)
set_option maxHeartbeats 16000000 in
set_option maxRecDepth 100000 in
theorem law_body {p : Program} {e : Env} {s : State} {m : MethodId} {args : Array Value} {below : List Frame} {meth : Method} {c : Code} {Q : State → Prop} (l : Launch) (hl9 : l.stackTraces = false) (D : va_G) (T : Nat → ClassId) (aK aV : Nat → Nat) (x : JV) {A : Nat → Prop} (hx : p.tables.exec = Jvm.exec) (hb : c.code = cL_law) (hml : c.maxLocals = 7) (hown : s.vm.findClass RL = some m.cls) (hts : ∀ w ∈ gJ, w.before args s = true) (hNC : NCX s) (hC : CX aK aV A s s.heap) (hX : JX x A s s.heap) (hK : va_K D vwCl (tyL T) s) (hA : ∀ q : Nat, s.heap.size ≤ q → A q)
    (hend : ∀ (H : Heap) (locs : List Loc) (ls : Array Slot), va_S A s.heap H locs → W p l e room_1 s m args below meth c H locs 679962 7061811 Q (F0 m 364 ls [.int 1]))
    (v : Nat → Nat) (B : Nat → Nat → Nat) (O : Nat → Nat → Nat → Int32) (g : CSt) (pl : Nat) (f0 f1 f2 : Nat → Int32) (q6 b9s : Nat) (f6 : Nat → Int32) (hf6 : ∀ i, i < 6 → ∃ n, n < 2 ^ 31 ∧ f6 i = nI n) (hOV : OV (O 0) 4 2 3 0) (hG : GW O 0 0 f2) (hg : g.2.2.2.1 = false) (hpl0 : pl = 0) (hf20 : f2 0 = 0) (hfind : findC (O 0) 9 2 4 = some 2)
    (cells slots : Nat) (hc1 : cells ≤ 1000) (hs1 : slots ≤ 10000) (ls : Array Slot) (H : Heap) (locs : List Loc) (hP : va_P D vwCl ((q6, .inl (T 0, 6, .inl f6)) :: WIN T v B O g 0 0 0 pl f0 f1 f2) H) (hD : va_D A ((q6, .inl (T 0, 6, .inl f6)) :: WIN T v B O g 0 0 0 pl f0 f1 f2)) (hS : va_S A s.heap H locs) (hl : lv_has ls 7 [(2, .ref (v 0)), (1, .ref q6), (0, .ref b9s)]) : W p l e room_1 s m args below meth c H locs cells slots Q (F0 m 43 ls []) := by
  have hOI := hOV.oi

  refine lv_aload_n hx hb dL_law_43 rfl (lv_at hl 0 rfl) ?_
  refine lv_bipush (v := 9) hx hb dL_law_44 (by decide) ?_
  refine lv_iconst (v := 0) hx hb dL_law_46 (by decide) ?_
  refine lqSi (As := [.ref (v 0), .int (9), .int (0)]) (rest := []) ⟨hx, hb, hml, hown, hts⟩ (c_ask_bad9 l hl9 D T aK aV v B O g 0 0 0 pl f0 f1 f2 4 2 3 0 hOI rfl (by omega) (by omega) _) (va_cwS 3 hts (gJ_up gl_L_call__) rfl rfl rfl (by decide +kernel) ⟨Nat.le_of_ble_eq_true rfl, Nat.le_of_ble_eq_true rfl⟩) (Foc.pre [(q6, .inl (T 0, 6, .inl f6))] _ _) hC hNC hK hP hD hS hA rfl hl.1 rfl (Nat.le_of_ble_eq_true rfl) ⟨by show _ ≤ 679962; omega, by show _ ≤ 7061811; omega⟩ dL_law_47 (fun H locs hP hD hS => ?_)
  have hP : va_P D vwCl ((q6, .inl (T 0, 6, .inl f6)) :: WIN T v B O g 0 0 0 pl f0 f1 f2) H := hP
  have hD : va_D A ((q6, .inl (T 0, 6, .inl f6)) :: WIN T v B O g 0 0 0 pl f0 f1 f2) := hD
  refine lv_bipush (v := -102) hx hb dL_law_50 (by decide) ?_
  refine lv_icmp_ne (tgt := 147) hx hb dL_law_52 (by decide) (fun c52 => ?_) (fun c52 => ?_)
  ·
    exact absurd c52 (by decide)
  ·
    refine lv_aload_n hx hb dL_law_55 rfl (lv_at hl 0 rfl) ?_
    refine rdV (As := []) (rest := []) ⟨hx, hb, hml, hown, hts⟩ (c_X9_complaintCount l D T v B O g 0 0 0 pl f0 f1 f2 ) (cwV 0 hts (gJ_up gl_X9_complaintCount) rfl rfl rfl (by decide +kernel) ⟨Nat.le_of_ble_eq_true rfl, Nat.le_of_ble_eq_true rfl⟩) hK (wTail (x := [(q6, .inl (T 0, 6, .inl f6))]) hP hD).1 0 rfl rfl rfl hl.1 rfl (Nat.le_of_ble_eq_true rfl) ⟨by show _ ≤ 679962; omega, by show _ ≤ 7061811; omega⟩ dL_law_56 ?_
    refine endI (r := 4) (hOI.1) ?_
    refine lv_iconst (v := 4) hx hb dL_law_59 (by decide) ?_
    refine lv_icmp_ne (tgt := 147) hx hb dL_law_60 (by decide) (fun c60 => ?_) (fun c60 => ?_)
    ·
      exact absurd c60 (by decide)
    ·
      refine lv_aload_n hx hb dL_law_63 rfl (lv_at hl 0 rfl) ?_
      refine rdV (As := []) (rest := []) ⟨hx, hb, hml, hown, hts⟩ (c_X9_clerkCount l D T v B O g 0 0 0 pl f0 f1 f2 ) (cwV 0 hts (gJ_up gl_X9_clerkCount) rfl rfl rfl (by decide +kernel) ⟨Nat.le_of_ble_eq_true rfl, Nat.le_of_ble_eq_true rfl⟩) hK (wTail (x := [(q6, .inl (T 0, 6, .inl f6))]) hP hD).1 0 rfl rfl rfl hl.1 rfl (Nat.le_of_ble_eq_true rfl) ⟨by show _ ≤ 679962; omega, by show _ ≤ 7061811; omega⟩ dL_law_64 ?_
      refine endI (r := 2) (hOI.2.2.1) ?_
      refine lv_iconst (v := 2) hx hb dL_law_67 (by decide) ?_
      refine lv_icmp_ne (tgt := 147) hx hb dL_law_68 (by decide) (fun c68 => ?_) (fun c68 => ?_)
      ·
        exact absurd c68 (by decide)
      ·
        refine lv_aload_n hx hb dL_law_71 rfl (lv_at hl 0 rfl) ?_
        refine rdV (As := []) (rest := []) ⟨hx, hb, hml, hown, hts⟩ (c_X9_cloudCount l D T v B O g 0 0 0 pl f0 f1 f2 ) (cwV 0 hts (gJ_up gl_X9_cloudCount) rfl rfl rfl (by decide +kernel) ⟨Nat.le_of_ble_eq_true rfl, Nat.le_of_ble_eq_true rfl⟩) hK (wTail (x := [(q6, .inl (T 0, 6, .inl f6))]) hP hD).1 0 rfl rfl rfl hl.1 rfl (Nat.le_of_ble_eq_true rfl) ⟨by show _ ≤ 679962; omega, by show _ ≤ 7061811; omega⟩ dL_law_72 ?_
        refine endI (r := 3) (hOI.2.2.2.2.1) ?_
        refine lv_iconst (v := 3) hx hb dL_law_75 (by decide) ?_
        refine lv_icmp_ne (tgt := 147) hx hb dL_law_76 (by decide) (fun c76 => ?_) (fun c76 => ?_)
        ·
          exact absurd c76 (by decide)
        ·
          refine lv_aload_n hx hb dL_law_79 rfl (lv_at hl 0 rfl) ?_
          refine lv_bipush (v := 33) hx hb dL_law_80 (by decide) ?_
          refine lv_bipush (v := 9) hx hb dL_law_82 (by decide) ?_
          refine lv_iconst (v := 2) hx hb dL_law_84 (by decide) ?_
          refine lqSi (As := [.ref (v 0), .int (33), .int (9), .int (2)]) (rest := []) ⟨hx, hb, hml, hown, hts⟩ (c_ask_waitingOf l hl9 D T aK aV v B O g 0 0 0 pl f0 f1 f2 9 2 4 2 3 0 hOI (rg_99 (q := 9) (by decide)) (rg_3 (q := 2) (by decide)) _) (va_cwS 4 hts (gJ_up gl_L_call_) rfl rfl rfl (by decide +kernel) ⟨Nat.le_of_ble_eq_true rfl, Nat.le_of_ble_eq_true rfl⟩) (Foc.pre [(q6, .inl (T 0, 6, .inl f6))] _ _) hC hNC hK hP hD hS hA rfl hl.1 rfl (Nat.le_of_ble_eq_true rfl) ⟨by show _ ≤ 679962; omega, by show _ ≤ 7061811; omega⟩ dL_law_85 (fun H locs hP hD hS => ?_)
          have hP : va_P D vwCl ((q6, .inl (T 0, 6, .inl f6)) :: WIN T v B O g 0 0 0 pl f0 f1 f2) H := hP
          have hD : va_D A ((q6, .inl (T 0, 6, .inl f6)) :: WIN T v B O g 0 0 0 pl f0 f1 f2) := hD
          refine endI (r := 2) (by rw [hfind]; rfl) ?_
          refine lv_iconst (v := 2) hx hb dL_law_88 (by decide) ?_
          refine lv_icmp_ne (tgt := 147) hx hb dL_law_89 (by decide) (fun c89 => ?_) (fun c89 => ?_)
          ·
            exact absurd c89 (by decide)
          ·
            refine lv_aload_n hx hb dL_law_92 rfl (lv_at hl 0 rfl) ?_
            refine lv_bipush (v := 15) hx hb dL_law_93 (by decide) ?_
            refine lv_iconst (v := 0) hx hb dL_law_95 (by decide) ?_
            refine lqSi (As := [.ref (v 0), .int (15), .int (0)]) (rest := []) ⟨hx, hb, hml, hown, hts⟩ (c_ask_err15 l hl9 D T aK aV v B O g 0 0 0 pl f0 f1 f2 4 2 3 0 hOI hg _) (va_cwS 3 hts (gJ_up gl_L_call__) rfl rfl rfl (by decide +kernel) ⟨Nat.le_of_ble_eq_true rfl, Nat.le_of_ble_eq_true rfl⟩) (Foc.pre [(q6, .inl (T 0, 6, .inl f6))] _ _) hC hNC hK hP hD hS hA rfl hl.1 rfl (Nat.le_of_ble_eq_true rfl) ⟨by show _ ≤ 679962; omega, by show _ ≤ 7061811; omega⟩ dL_law_96 (fun H locs hP hD hS => ?_)
            have hP : va_P D vwCl ((q6, .inl (T 0, 6, .inl f6)) :: WIN T v B O g 0 0 0 pl f0 f1 f2) H := hP
            have hD : va_D A ((q6, .inl (T 0, 6, .inl f6)) :: WIN T v B O g 0 0 0 pl f0 f1 f2) := hD
            refine lv_bipush (v := -101) hx hb dL_law_99 (by decide) ?_
            refine lv_icmp_ne (tgt := 147) hx hb dL_law_101 (by decide) (fun c101 => ?_) (fun c101 => ?_)
            ·
              exact absurd c101 (by decide)
            ·
              refine lv_aload_n hx hb dL_law_104 rfl (lv_at hl 0 rfl) ?_
              refine lv_bipush (v := 44) hx hb dL_law_105 (by decide) ?_
              refine lv_iconst (v := 0) hx hb dL_law_107 (by decide) ?_
              refine lqSi (As := [.ref (v 0), .int (44), .int (0)]) (rest := []) ⟨hx, hb, hml, hown, hts⟩ (c_ask_wr44 l hl9 D T aK aV v B O g 0 0 0 pl f0 f1 f2 4 2 3 0 hOI hpl0 (by omega) _) (va_cwS 3 hts (gJ_up gl_L_call__) rfl rfl rfl (by decide +kernel) ⟨Nat.le_of_ble_eq_true rfl, Nat.le_of_ble_eq_true rfl⟩) (Foc.pre [(q6, .inl (T 0, 6, .inl f6))] _ _) hC hNC hK hP hD hS hA rfl hl.1 rfl (Nat.le_of_ble_eq_true rfl) ⟨by show _ ≤ 679962; omega, by show _ ≤ 7061811; omega⟩ dL_law_108 (fun H locs hP hD hS => ?_)
              have hP : va_P D vwCl ((q6, .inl (T 0, 6, .inl f6)) :: WIN T v B O g 0 0 0 pl f0 f1 f2) H := hP
              have hD : va_D A ((q6, .inl (T 0, 6, .inl f6)) :: WIN T v B O g 0 0 0 pl f0 f1 f2) := hD
              refine lv_bipush (v := -104) hx hb dL_law_111 (by decide) ?_
              refine lv_icmp_ne (tgt := 147) hx hb dL_law_113 (by decide) (fun c113 => ?_) (fun c113 => ?_)
              ·
                exact absurd c113 (by decide)
              ·
                refine lv_aload_n hx hb dL_law_116 rfl (lv_at hl 0 rfl) ?_
                refine lv_bipush (v := 11) hx hb dL_law_117 (by decide) ?_
                refine lv_iconst (v := 0) hx hb dL_law_119 (by decide) ?_
                refine lqSi (As := [.ref (v 0), .int (11), .int (0)]) (rest := []) ⟨hx, hb, hml, hown, hts⟩ (c_ask_rs11 l hl9 D T aK aV v B O g 0 0 0 pl f0 f1 f2 4 2 3 0 hOI hf20 (by omega) (by omega) _) (va_cwS 3 hts (gJ_up gl_L_call__) rfl rfl rfl (by decide +kernel) ⟨Nat.le_of_ble_eq_true rfl, Nat.le_of_ble_eq_true rfl⟩) (Foc.pre [(q6, .inl (T 0, 6, .inl f6))] _ _) hC hNC hK hP hD hS hA rfl hl.1 rfl (Nat.le_of_ble_eq_true rfl) ⟨by show _ ≤ 679962; omega, by show _ ≤ 7061811; omega⟩ dL_law_120 (fun H locs hP hD hS => ?_)
                have hP : va_P D vwCl ((q6, .inl (T 0, 6, .inl f6)) :: WIN T v B O g 0 0 0 pl f0 f1 f2) H := hP
                have hD : va_D A ((q6, .inl (T 0, 6, .inl f6)) :: WIN T v B O g 0 0 0 pl f0 f1 f2) := hD
                refine lv_bipush (v := -101) hx hb dL_law_123 (by decide) ?_
                refine lv_icmp_ne (tgt := 147) hx hb dL_law_125 (by decide) (fun c125 => ?_) (fun c125 => ?_)
                ·
                  exact absurd c125 (by decide)
                ·
                  refine lv_aload_n hx hb dL_law_128 rfl (lv_at hl 0 rfl) ?_
                  refine lv_iconst (v := 0) hx hb dL_law_129 (by decide) ?_
                  refine lqSi (As := [.ref (v 0), .int (0)]) (rest := []) ⟨hx, hb, hml, hown, hts⟩ (c_L_moon l hl9 D T aK aV v B O g 0 0 0 pl f0 f1 f2 0 4 2 3 0 hOI (by decide) hOV.cl (by decide) _) (va_cwS 2 hts (gJ_up gl_L_moon) rfl rfl rfl (by decide +kernel) ⟨Nat.le_of_ble_eq_true rfl, Nat.le_of_ble_eq_true rfl⟩) (Foc.pre [(q6, .inl (T 0, 6, .inl f6))] _ _) hC hNC hK hP hD hS hA rfl hl.1 rfl (Nat.le_of_ble_eq_true rfl) ⟨by show _ ≤ 679962; omega, by show _ ≤ 7061811; omega⟩ dL_law_130 (fun H locs hP hD hS => ?_)
                  have hP : va_P D vwCl ((q6, .inl (T 0, 6, .inl f6)) :: WIN T v B O g 0 0 0 pl f0 f1 f2) H := hP
                  have hD : va_D A ((q6, .inl (T 0, 6, .inl f6)) :: WIN T v B O g 0 0 0 pl f0 f1 f2) := hD
                  refine lv_if_eq (tgt := 147) hx hb dL_law_133 (by decide) (fun c133 => ?_) (fun c133 => ?_)
                  ·
                    exact absurd c133 (by decide)
                  ·
                    refine lv_aload_n hx hb dL_law_136 rfl (lv_at hl 0 rfl) ?_
                    refine lqSi (As := [.ref (v 0)]) (rest := []) ⟨hx, hb, hml, hown, hts⟩ (c_L_books l hl9 D T aK aV v B O g 0 0 0 pl f0 f1 f2 4 2 3 0 hOI (by omega) (by omega) _) (va_cwS 1 hts (gJ_up gl_L_books) rfl rfl rfl (by decide +kernel) ⟨Nat.le_of_ble_eq_true rfl, Nat.le_of_ble_eq_true rfl⟩) (Foc.pre [(q6, .inl (T 0, 6, .inl f6))] _ _) hC hNC hK hP hD hS hA rfl hl.1 rfl (Nat.le_of_ble_eq_true rfl) ⟨by show _ ≤ 679962; omega, by show _ ≤ 7061811; omega⟩ dL_law_137 (fun H locs hP hD hS => ?_)
                    have hP : va_P D vwCl ((q6, .inl (T 0, 6, .inl f6)) :: WIN T v B O g 0 0 0 pl f0 f1 f2) H := hP
                    have hD : va_D A ((q6, .inl (T 0, 6, .inl f6)) :: WIN T v B O g 0 0 0 pl f0 f1 f2) := hD
                    refine lv_if_eq (tgt := 147) hx hb dL_law_140 (by decide) (fun c140 => ?_) (fun c140 => ?_)
                    ·
                      exact absurd c140 (by decide)
                    ·
                      refine lv_iconst (v := 1) hx hb dL_law_143 (by decide) ?_
                      refine lv_goto (tgt := 148) hx hb dL_law_144 (by decide) ?_
                      refine lv_istore_n (lv' := [(3, .int (1)), (2, .ref (v 0)), (1, .ref (q6)), (0, .ref (b9s))]) hx hb dL_law_148 rfl hl (by decide) rfl (fun ls hl => ?_)
                      refine lv_iconst (v := 0) hx hb dL_law_149 (by decide) ?_
                      refine lv_istore (lv' := [(4, .int (0)), (3, .int (1)), (2, .ref (v 0)), (1, .ref (q6)), (0, .ref (b9s))]) hx hb dL_law_150 hl (by decide) rfl (fun ls hl => ?_)
                      have L152 : ∀ (n9 : Nat) (i9 : Nat) (Os : Nat → Nat → Nat → Int32) (gs : CSt) (uns : Nat) (nxs : Nat) (f0s : Nat → Int32) (f2s : Nat → Int32) (Ns : Nat) (Ks : Nat) (Cs : Nat) (nts : Nat) (cb1 sb1 : Nat), (3 - i9) < n9 → (i9 ≤ 3) → (OV (Os 0) Ns Ks Cs nts) → (GW Os uns nxs f2s) → (nts ≤ 999) → cb1 ≤ 1000 + 8220 + 90000 * i9 → sb1 ≤ 10000 + 49320 + 900000 * i9 → ∀ (H : Heap) (locs : List Loc) (ls : Array Slot), va_P D vwCl ((q6, .inl (T 0, 6, .inl f6)) :: WIN T v B Os gs 0 uns nxs pl f0s f1 f2s) H → va_D A ((q6, .inl (T 0, 6, .inl f6)) :: WIN T v B Os gs 0 uns nxs pl f0s f1 f2s) → va_S A s.heap H locs → lv_has ls 7 [(4, .int (nI (2 * i9))), (3, .int (1)), (2, .ref (v 0)), (1, .ref (q6)), (0, .ref (b9s))] → W p l e room_1 s m args below meth c H locs cb1 sb1 Q (F0 m 152 ls []) := by
                        intro n9
                        induction n9 with
                        | zero => intro i9 Os gs uns nxs f0s f2s Ns Ks Cs nts cb1 sb1 hm9; exact absurd hm9 (Nat.not_lt_zero _)
                        | succ n9 ih152 =>
                          intro i9 Os gs uns nxs f0s f2s Ns Ks Cs nts cb1 sb1 hm9 hi9 hOVs hGs hnts hcb1 hsb1 H locs ls hP hD hS hl
                          have hOIs := hOVs.oi
                          have huns := hGs.un8
                          have hnxs := hGs.nx8
                          refine lv_iload hx hb dL_law_152 (lv_at hl 0 rfl) ?_
                          refine lv_iconst (v := 1) hx hb dL_law_154 (by decide) ?_
                          refine lv_iadd hx hb dL_law_155 ?_
                          refine endI (r := nI ((2 * i9) + 1)) (nI_add _ _) ?_
                          refine lv_bipush (v := 6) hx hb dL_law_156 (by decide) ?_
                          refine lv_icmp_ge (tgt := 363) hx hb dL_law_158 (by decide) (fun c158 => ?_) (fun c158 => ?_)
                          ·
                            have c158 : 6 ≤ ((2 * i9) + 1) := (nI_leI (a := 6) (b := ((2 * i9) + 1)) (by omega) (by omega)).mp c158
                            refine lv_iload_n hx hb dL_law_363 rfl (lv_at hl 1 rfl) ?_
                            obtain ⟨hP, hD⟩ := wTail (x := [(q6, .inl (T 0, 6, .inl f6))]) hP hD
                            refine W.widen (k := 679962) (n := 7061811) (by omega) (by omega) ?_
                            exact hend _ _ _ hS
                          ·
                            have c158 : ¬ 6 ≤ ((2 * i9) + 1) := fun h9 => c158 ((nI_leI (a := 6) (b := ((2 * i9) + 1)) (by omega) (by omega)).mpr h9)
                            obtain ⟨w9, hw9, ew9⟩ := hf6 (2 * i9) (by omega)
                            obtain ⟨v9, hv9, ev9⟩ := hf6 (2 * i9 + 1) (by omega)
                            refine lv_iload_n hx hb dL_law_161 rfl (lv_at hl 1 rfl) ?_
                            refine lv_if_eq (tgt := 363) hx hb dL_law_162 (by decide) (fun c162 => ?_) (fun c162 => ?_)
                            ·
                              exact absurd c162 (by decide)
                            ·
                              refine lv_iload hx hb dL_law_165 (lv_at hl 0 rfl) ?_
                              refine lv_iconst (v := 2) hx hb dL_law_167 (by decide) ?_
                              refine lv_icmp_eq (tgt := 230) hx hb dL_law_168 (by decide) (fun c168 => ?_) (fun c168 => ?_)
                              ·
                                have c168 : (2 * i9) = 2 := (nI_eq (a := (2 * i9)) (b := 2) (by omega) (by omega)).mp c168
                                refine lv_iconst (v := 0) hx hb dL_law_230 (by decide) ?_
                                refine lv_istore (lv' := [(5, .int (0)), (4, .int (nI (2 * i9))), (3, .int (1)), (2, .ref (v 0)), (1, .ref (q6)), (0, .ref (b9s))]) hx hb dL_law_231 hl (by decide) rfl (fun ls hl => ?_)
                                have L233 : ∀ (n9 : Nat) (j9 : Nat) (Od : Nat → Nat → Nat → Int32) (und : Nat) (nxd : Nat) (f2d : Nat → Int32) (cb2 sb2 : Nat), (9 - j9) < n9 → (j9 ≤ 9) → (GW Od und nxd f2d) → cb2 ≤ 1000 + 8220 + 90000 * i9 + 0 + 2900 * j9 → sb2 ≤ 10000 + 49320 + 900000 * i9 + 0 + 17400 * j9 → ∀ (H : Heap) (locs : List Loc) (ls : Array Slot), va_P D vwCl ((q6, .inl (T 0, 6, .inl f6)) :: WIN T v B Od gs 0 und nxd pl f0s f1 f2d) H → va_D A ((q6, .inl (T 0, 6, .inl f6)) :: WIN T v B Od gs 0 und nxd pl f0s f1 f2d) → va_S A s.heap H locs → lv_has ls 7 [(5, .int (nI j9)), (4, .int (nI (2 * i9))), (3, .int (1)), (2, .ref (v 0)), (1, .ref (q6)), (0, .ref (b9s))] → W p l e room_1 s m args below meth c H locs cb2 sb2 Q (F0 m 233 ls []) := by
                                  intro n9
                                  induction n9 with
                                  | zero => intro j9 Od und nxd f2d cb2 sb2 hm9; exact absurd hm9 (Nat.not_lt_zero _)
                                  | succ n9 ih233 =>
                                    intro j9 Od und nxd f2d cb2 sb2 hm9 hj9 hGd hcb2 hsb2 H locs ls hP hD hS hl
                                    obtain ⟨Nd, Kd, Cd, nd, hnd, hOVd⟩ := hGd.2.2.1
                                    have hOId := hOVd.oi
                                    have hund := hGd.un8
                                    have hnxd := hGd.nx8
                                    refine lv_iload hx hb dL_law_233 (lv_at hl 0 rfl) ?_
                                    refine lv_bipush (v := 9) hx hb dL_law_235 (by decide) ?_
                                    refine lv_icmp_ge (tgt := 275) hx hb dL_law_237 (by decide) (fun c237 => ?_) (fun c237 => ?_)
                                    ·
                                      have c237 : 9 ≤ j9 := (nI_leI (a := 9) (b := j9) (by omega) (by omega)).mp c237
                                      refine lv_iload_n hx hb dL_law_275 rfl (lv_at hl 2 rfl) ?_
                                      refine lv_if_eq (tgt := 286) hx hb dL_law_276 (by decide) (fun c276 => ?_) (fun c276 => ?_)
                                      ·
                                        exact absurd c276 (by decide)
                                      ·
                                        refine lv_aload_n hx hb dL_law_279 rfl (lv_at hl 3 rfl) ?_
                                        refine lqSl (As := [.ref (v 0)]) (rest := []) ⟨hx, hb, hml, hown, hts⟩ (c_L_state l hl9 D T aK aV v B Od gs 0 und nxd pl f0s f1 f2d Nd Kd Cd nd hOId _) (va_cwS 1 hts (gJ_up gl_L_state) rfl rfl rfl (by decide +kernel) ⟨Nat.le_of_ble_eq_true rfl, Nat.le_of_ble_eq_true rfl⟩) (Foc.pre [(q6, .inl (T 0, 6, .inl f6))] _ _) hC hNC hK hP hD hS hA rfl hl.1 rfl (Nat.le_of_ble_eq_true rfl) ⟨by show _ ≤ 679962; omega, by show _ ≤ 7061811; omega⟩ dL_law_280 (fun H locs hP hD hS => ?_)
                                        have hP : va_P D vwCl ((q6, .inl (T 0, 6, .inl f6)) :: WIN T v B Od gs 0 und nxd pl f0s f1 f2d) H := hP
                                        have hD : va_D A ((q6, .inl (T 0, 6, .inl f6)) :: WIN T v B Od gs 0 und nxd pl f0s f1 f2d) := hD
                                        refine lv_goto (tgt := 287) hx hb dL_law_283 (by decide) ?_
                                        refine lv_lstore (lv' := [(5, .long (stC (Od 0) Nd Kd Cd)), (4, .int (nI (2 * i9))), (3, .int (1)), (2, .ref (v 0)), (1, .ref (q6)), (0, .ref (b9s))]) hx hb dL_law_287 hl (by decide) rfl (fun ls hl => ?_)
                                        refine lv_iload_n hx hb dL_law_289 rfl (lv_at hl 2 rfl) ?_
                                        refine lv_if_eq (tgt := 355) hx hb dL_law_290 (by decide) (fun c290 => ?_) (fun c290 => ?_)
                                        ·
                                          exact absurd c290 (by decide)
                                        ·
                                          refine lv_aload_n hx hb dL_law_293 rfl (lv_at hl 3 rfl) ?_
                                          refine lv_aload_n hx hb dL_law_294 rfl (lv_at hl 4 rfl) ?_
                                          refine lv_iload hx hb dL_law_295 (lv_at hl 1 rfl) ?_
                                          refine aldI hx hb hK hP 0 0 rfl rfl (2 * i9) rfl (by omega) (by decide) dL_law_297 ?_
                                          refine endI (r := nI w9) (ew9) ?_
                                          refine lqSi (As := [.ref (v 0), .int (nI w9)]) (rest := []) ⟨hx, hb, hml, hown, hts⟩ (c_L_moon l hl9 D T aK aV v B Od gs 0 und nxd pl f0s f1 f2d w9 Nd Kd Cd nd hOId (by omega) hOVd.cl (by omega) _) (va_cwS 2 hts (gJ_up gl_L_moon) rfl rfl rfl (by decide +kernel) ⟨Nat.le_of_ble_eq_true rfl, Nat.le_of_ble_eq_true rfl⟩) (Foc.pre [(q6, .inl (T 0, 6, .inl f6))] _ _) hC hNC hK hP hD hS hA rfl hl.1 rfl (Nat.le_of_ble_eq_true rfl) ⟨by show _ ≤ 679962; omega, by show _ ≤ 7061811; omega⟩ dL_law_298 (fun H locs hP hD hS => ?_)
                                          have hP : va_P D vwCl ((q6, .inl (T 0, 6, .inl f6)) :: WIN T v B Od gs 0 und nxd pl f0s f1 f2d) H := hP
                                          have hD : va_D A ((q6, .inl (T 0, 6, .inl f6)) :: WIN T v B Od gs 0 und nxd pl f0s f1 f2d) := hD
                                          refine lv_if_eq (tgt := 355) hx hb dL_law_301 (by decide) (fun c301 => ?_) (fun c301 => ?_)
                                          ·
                                            exact absurd c301 (by decide)
                                          ·
                                            refine lv_aload_n hx hb dL_law_304 rfl (lv_at hl 3 rfl) ?_
                                            refine lqSi (As := [.ref (v 0)]) (rest := []) ⟨hx, hb, hml, hown, hts⟩ (c_L_books l hl9 D T aK aV v B Od gs 0 und nxd pl f0s f1 f2d Nd Kd Cd nd hOId (by omega) (by omega) _) (va_cwS 1 hts (gJ_up gl_L_books) rfl rfl rfl (by decide +kernel) ⟨Nat.le_of_ble_eq_true rfl, Nat.le_of_ble_eq_true rfl⟩) (Foc.pre [(q6, .inl (T 0, 6, .inl f6))] _ _) hC hNC hK hP hD hS hA rfl hl.1 rfl (Nat.le_of_ble_eq_true rfl) ⟨by show _ ≤ 679962; omega, by show _ ≤ 7061811; omega⟩ dL_law_305 (fun H locs hP hD hS => ?_)
                                            have hP : va_P D vwCl ((q6, .inl (T 0, 6, .inl f6)) :: WIN T v B Od gs 0 und nxd pl f0s f1 f2d) H := hP
                                            have hD : va_D A ((q6, .inl (T 0, 6, .inl f6)) :: WIN T v B Od gs 0 und nxd pl f0s f1 f2d) := hD
                                            refine lv_if_eq (tgt := 355) hx hb dL_law_308 (by decide) (fun c308 => ?_) (fun c308 => ?_)
                                            ·
                                              exact absurd c308 (by decide)
                                            ·
                                              refine lv_aload_n hx hb dL_law_311 rfl (lv_at hl 3 rfl) ?_
                                              refine lqSl (As := [.ref (v 0)]) (rest := []) ⟨hx, hb, hml, hown, hts⟩ (c_L_state l hl9 D T aK aV v B Od gs 0 und nxd pl f0s f1 f2d Nd Kd Cd nd hOId _) (va_cwS 1 hts (gJ_up gl_L_state) rfl rfl rfl (by decide +kernel) ⟨Nat.le_of_ble_eq_true rfl, Nat.le_of_ble_eq_true rfl⟩) (Foc.pre [(q6, .inl (T 0, 6, .inl f6))] _ _) hC hNC hK hP hD hS hA rfl hl.1 rfl (Nat.le_of_ble_eq_true rfl) ⟨by show _ ≤ 679962; omega, by show _ ≤ 7061811; omega⟩ dL_law_312 (fun H locs hP hD hS => ?_)
                                              have hP : va_P D vwCl ((q6, .inl (T 0, 6, .inl f6)) :: WIN T v B Od gs 0 und nxd pl f0s f1 f2d) H := hP
                                              have hD : va_D A ((q6, .inl (T 0, 6, .inl f6)) :: WIN T v B Od gs 0 und nxd pl f0s f1 f2d) := hD
                                              refine lv_lload hx hb dL_law_315 (lv_at hl 0 rfl) ?_
                                              refine W.lcmp hx hb dL_law_317 ?_
                                              refine endI (r := 0) ((lg_cmp_eq _ _).mpr rfl) ?_
                                              refine lv_if_ne (tgt := 355) hx hb dL_law_318 (by decide) (fun c318 => ?_) (fun c318 => ?_)
                                              ·
                                                exact absurd c318 (by decide)
                                              ·
                                                refine lv_aload_n hx hb dL_law_321 rfl (lv_at hl 3 rfl) ?_
                                                refine lcSi (S := S3) (ws1 := fun u => ((q6, .inl (T 0, 6, .inl f6)) :: WIN T v B u.1 gs 0 u.2.1 u.2.2 pl f0s f1 f2d : va_W)) (wc1 := fun u => (WIN T v B u.1 gs 0 u.2.1 u.2.2 pl f0s f1 f2d : va_W)) (As := [.ref (v 0)]) (rest := []) ⟨hx, hb, hml, hown, hts⟩ (c_L_night l hl9 D T aK aV v B Od gs 0 und nxd pl f0s f1 f2d Nd Kd Cd nd hOId hOVd hGd hnd _) (va_cwS 1 hts (gJ_up gl_L_night) rfl rfl rfl (by decide +kernel) ⟨Nat.le_of_ble_eq_true rfl, Nat.le_of_ble_eq_true rfl⟩) (fun u => Foc.pre [(q6, .inl (T 0, 6, .inl f6))] _ _) (Foc.pre [(q6, .inl (T 0, 6, .inl f6))] _ _) hC hNC hK hP hD hS hA rfl hl.1 rfl (Nat.le_of_ble_eq_true rfl) ⟨by show _ ≤ 679962; omega, by show _ ≤ 7061811; omega⟩ dL_law_322 (fun r9 u H locs hr hP hD hS => ?_)
                                                obtain ⟨On, unn, nxn⟩ := u
                                                obtain ⟨hr, hOn, hGn⟩ := hr
                                                subst hr
                                                replace hOn : On 0 = Od 0 := hOn
                                                replace hGn : GW On unn nxn f2d := hGn
                                                have hOVn : OV (On 0) Nd Kd Cd nd := by rw [hOn]; exact hOVd
                                                have hOIn := hOVn.oi
                                                have hP : va_P D vwCl ((q6, .inl (T 0, 6, .inl f6)) :: WIN T v B On gs 0 unn nxn pl f0s f1 f2d) H := hP
                                                have hD : va_D A ((q6, .inl (T 0, 6, .inl f6)) :: WIN T v B On gs 0 unn nxn pl f0s f1 f2d) := hD
                                                refine lv_if_eq (tgt := 355) hx hb dL_law_325 (by decide) (fun c325 => ?_) (fun c325 => ?_)
                                                ·
                                                  exact absurd c325 (by decide)
                                                ·
                                                  refine lv_aload_n hx hb dL_law_328 rfl (lv_at hl 3 rfl) ?_
                                                  refine lv_aload_n hx hb dL_law_329 rfl (lv_at hl 4 rfl) ?_
                                                  refine lv_iload hx hb dL_law_330 (lv_at hl 1 rfl) ?_
                                                  refine lv_iconst (v := 1) hx hb dL_law_332 (by decide) ?_
                                                  refine lv_iadd hx hb dL_law_333 ?_
                                                  refine endI (r := nI ((2 * i9) + 1)) (nI_add _ _) ?_
                                                  refine aldI hx hb hK hP 0 0 rfl rfl ((2 * i9) + 1) rfl (by omega) (by decide) dL_law_334 ?_
                                                  refine endI (r := nI v9) (ev9) ?_
                                                  refine lcSi (S := S3) (ws1 := fun u => ((q6, .inl (T 0, 6, .inl f6)) :: WIN T v B u.1 gs 0 u.2.1 u.2.2 pl f0s f1 f2d : va_W)) (wc1 := fun u => (WIN T v B u.1 gs 0 u.2.1 u.2.2 pl f0s f1 f2d : va_W)) (As := [.ref (v 0), .int (nI v9)]) (rest := []) ⟨hx, hb, hml, hown, hts⟩ (c_L_ahead l hl9 D T aK aV v B On gs 0 unn nxn pl f0s f1 f2d v9 Nd Kd Cd nd hOIn (by omega) hOVn hGn hnd _) (va_cwS 2 hts (gJ_up gl_L_ahead) rfl rfl rfl (by decide +kernel) ⟨Nat.le_of_ble_eq_true rfl, Nat.le_of_ble_eq_true rfl⟩) (fun u => Foc.pre [(q6, .inl (T 0, 6, .inl f6))] _ _) (Foc.pre [(q6, .inl (T 0, 6, .inl f6))] _ _) hC hNC hK hP hD hS hA rfl hl.1 rfl (Nat.le_of_ble_eq_true rfl) ⟨by show _ ≤ 679962; omega, by show _ ≤ 7061811; omega⟩ dL_law_335 (fun r9 u H locs hr hP hD hS => ?_)
                                                  obtain ⟨Oa, una, nxa⟩ := u
                                                  obtain ⟨hr, hOa, hGa⟩ := hr
                                                  subst hr
                                                  replace hOa : Oa 0 = Od 0 := hOa.trans hOn
                                                  replace hGa : GW Oa una nxa f2d := hGa
                                                  have hOVa : OV (Oa 0) Nd Kd Cd nd := by rw [hOa]; exact hOVd
                                                  have hOIa := hOVa.oi
                                                  have hP : va_P D vwCl ((q6, .inl (T 0, 6, .inl f6)) :: WIN T v B Oa gs 0 una nxa pl f0s f1 f2d) H := hP
                                                  have hD : va_D A ((q6, .inl (T 0, 6, .inl f6)) :: WIN T v B Oa gs 0 una nxa pl f0s f1 f2d) := hD
                                                  refine lv_if_eq (tgt := 355) hx hb dL_law_338 (by decide) (fun c338 => ?_) (fun c338 => ?_)
                                                  ·
                                                    exact absurd c338 (by decide)
                                                  ·
                                                    refine lv_aload_n hx hb dL_law_341 rfl (lv_at hl 3 rfl) ?_
                                                    refine lqSl (As := [.ref (v 0)]) (rest := []) ⟨hx, hb, hml, hown, hts⟩ (c_L_state l hl9 D T aK aV v B Oa gs 0 una nxa pl f0s f1 f2d Nd Kd Cd nd hOIa _) (va_cwS 1 hts (gJ_up gl_L_state) rfl rfl rfl (by decide +kernel) ⟨Nat.le_of_ble_eq_true rfl, Nat.le_of_ble_eq_true rfl⟩) (Foc.pre [(q6, .inl (T 0, 6, .inl f6))] _ _) hC hNC hK hP hD hS hA rfl hl.1 rfl (Nat.le_of_ble_eq_true rfl) ⟨by show _ ≤ 679962; omega, by show _ ≤ 7061811; omega⟩ dL_law_342 (fun H locs hP hD hS => ?_)
                                                    have hP : va_P D vwCl ((q6, .inl (T 0, 6, .inl f6)) :: WIN T v B Oa gs 0 una nxa pl f0s f1 f2d) H := hP
                                                    have hD : va_D A ((q6, .inl (T 0, 6, .inl f6)) :: WIN T v B Oa gs 0 una nxa pl f0s f1 f2d) := hD
                                                    refine endL (r := stC (Od 0) Nd Kd Cd) (by rw [hOa]) ?_
                                                    refine lv_lload hx hb dL_law_345 (lv_at hl 0 rfl) ?_
                                                    refine W.lcmp hx hb dL_law_347 ?_
                                                    refine endI (r := 0) ((lg_cmp_eq _ _).mpr rfl) ?_
                                                    refine lv_if_ne (tgt := 355) hx hb dL_law_348 (by decide) (fun c348 => ?_) (fun c348 => ?_)
                                                    ·
                                                      exact absurd c348 (by decide)
                                                    ·
                                                      refine lv_iconst (v := 1) hx hb dL_law_351 (by decide) ?_
                                                      refine lv_goto (tgt := 356) hx hb dL_law_352 (by decide) ?_
                                                      refine lv_istore_n (lv' := [(3, .int (1)), (5, .long (stC (Od 0) Nd Kd Cd)), (4, .int (nI (2 * i9))), (2, .ref (v 0)), (1, .ref (q6)), (0, .ref (b9s))]) hx hb dL_law_356 rfl hl (by decide) rfl (fun ls hl => ?_)
                                                      refine lv_iinc (v := nI ((2 * i9) + 2)) (lv' := [(4, .int (nI ((2 * i9) + 2))), (3, .int (1)), (5, .long (stC (Od 0) Nd Kd Cd)), (2, .ref (v 0)), (1, .ref (q6)), (0, .ref (b9s))]) hx hb dL_law_357 hl (k := 2) rfl (nI_add _ _) (by decide) rfl (fun ls hl => ?_)
                                                      refine lv_goto (tgt := 152) hx hb dL_law_360 (by decide) ?_
                                                      exact ih152 ((i9 + 1)) Oa gs una nxa f0s f2d Nd Kd Cd nd _ _ (by omega) (by omega) (by exact hOVa) (by exact hGa) (by exact hnd) (by omega) (by omega) _ _ _ hP hD hS (lv_sub hl [0, 1, 3, 4, 5] rfl)
                                    ·
                                      have c237 : ¬ 9 ≤ j9 := fun h9 => c237 ((nI_leI (a := 9) (b := j9) (by omega) (by omega)).mpr h9)
                                      refine lv_iload_n hx hb dL_law_240 rfl (lv_at hl 2 rfl) ?_
                                      refine lv_if_eq (tgt := 275) hx hb dL_law_241 (by decide) (fun c241 => ?_) (fun c241 => ?_)
                                      ·
                                        exact absurd c241 (by decide)
                                      ·
                                        refine lv_aload_n hx hb dL_law_244 rfl (lv_at hl 3 rfl) ?_
                                        refine lv_aload_n hx hb dL_law_245 rfl (lv_at hl 4 rfl) ?_
                                        refine lv_iload hx hb dL_law_246 (lv_at hl 1 rfl) ?_
                                        refine aldI hx hb hK hP 0 0 rfl rfl (2 * i9) rfl (by omega) (by decide) dL_law_248 ?_
                                        refine endI (r := nI w9) (ew9) ?_
                                        refine lv_iconst (v := 3) hx hb dL_law_249 (by decide) ?_
                                        refine lv_iload hx hb dL_law_250 (lv_at hl 0 rfl) ?_
                                        refine lv_imul hx hb dL_law_252 ?_
                                        refine endI (r := nI (3 * j9)) (pk_mul _ _) ?_
                                        refine lv_ishr hx hb dL_law_253 ?_
                                        refine endI (r := nI (w9 / 2 ^ (3 * j9))) (nI_shr hw9 (by omega)) ?_
                                        refine lv_aload_n hx hb dL_law_254 rfl (lv_at hl 4 rfl) ?_
                                        refine lv_iload hx hb dL_law_255 (lv_at hl 1 rfl) ?_
                                        refine lv_iconst (v := 1) hx hb dL_law_257 (by decide) ?_
                                        refine lv_iadd hx hb dL_law_258 ?_
                                        refine endI (r := nI ((2 * i9) + 1)) (nI_add _ _) ?_
                                        refine aldI hx hb hK hP 0 0 rfl rfl ((2 * i9) + 1) rfl (by omega) (by decide) dL_law_259 ?_
                                        refine endI (r := nI v9) (ev9) ?_
                                        refine lv_iconst (v := 2) hx hb dL_law_260 (by decide) ?_
                                        refine lv_iload hx hb dL_law_261 (lv_at hl 0 rfl) ?_
                                        refine lv_imul hx hb dL_law_263 ?_
                                        refine endI (r := nI (2 * j9)) (pk_mul _ _) ?_
                                        refine lv_ishr hx hb dL_law_264 ?_
                                        refine endI (r := nI (v9 / 2 ^ (2 * j9))) (nI_shr hv9 (by omega)) ?_
                                        refine lcSi (S := S4) (ws1 := fun u => ((q6, .inl (T 0, 6, .inl f6)) :: WIN T v B u.1 gs 0 u.2.1 u.2.2.1 pl f0s f1 u.2.2.2 : va_W)) (wc1 := fun u => (WIN T v B u.1 gs 0 u.2.1 u.2.2.1 pl f0s f1 u.2.2.2 : va_W)) (As := [.ref (v 0), .int (nI (w9 / 2 ^ (3 * j9))), .int (nI (v9 / 2 ^ (2 * j9)))]) (rest := []) ⟨hx, hb, hml, hown, hts⟩ (c_L_does l hl9 D T aK aV v B Od gs 0 und nxd pl f0s f1 f2d (w9 / 2 ^ (3 * j9)) (v9 / 2 ^ (2 * j9)) Nd Kd Cd nd hOId (Nat.lt_of_le_of_lt (Nat.div_le_self _ _) hw9) (Nat.lt_of_le_of_lt (Nat.div_le_self _ _) hv9) hOVd hGd hnd _) (va_cwS 3 hts (gJ_up gl_L_does) rfl rfl rfl (by decide +kernel) ⟨Nat.le_of_ble_eq_true rfl, Nat.le_of_ble_eq_true rfl⟩) (fun u => Foc.pre [(q6, .inl (T 0, 6, .inl f6))] _ _) (Foc.pre [(q6, .inl (T 0, 6, .inl f6))] _ _) hC hNC hK hP hD hS hA rfl hl.1 rfl (Nat.le_of_ble_eq_true rfl) ⟨by show _ ≤ 679962; omega, by show _ ≤ 7061811; omega⟩ dL_law_265 (fun r9 u H locs hr hP hD hS => ?_)
                                        obtain ⟨Oe, une, nxe, f2e⟩ := u
                                        obtain ⟨hr, hGe⟩ := hr
                                        subst hr
                                        replace hGe : GW Oe une nxe f2e := hGe
                                        have hP : va_P D vwCl ((q6, .inl (T 0, 6, .inl f6)) :: WIN T v B Oe gs 0 une nxe pl f0s f1 f2e) H := hP
                                        have hD : va_D A ((q6, .inl (T 0, 6, .inl f6)) :: WIN T v B Oe gs 0 une nxe pl f0s f1 f2e) := hD
                                        refine lv_istore_n (lv' := [(3, .int (1)), (5, .int (nI j9)), (4, .int (nI (2 * i9))), (2, .ref (v 0)), (1, .ref (q6)), (0, .ref (b9s))]) hx hb dL_law_268 rfl hl (by decide) rfl (fun ls hl => ?_)
                                        refine lv_iinc (v := nI (j9 + 1)) (lv' := [(5, .int (nI (j9 + 1))), (3, .int (1)), (4, .int (nI (2 * i9))), (2, .ref (v 0)), (1, .ref (q6)), (0, .ref (b9s))]) hx hb dL_law_269 hl (k := 1) rfl (nI_add _ _) (by decide) rfl (fun ls hl => ?_)
                                        refine lv_goto (tgt := 233) hx hb dL_law_272 (by decide) ?_
                                        exact ih233 (j9 + 1) Oe une nxe f2e _ _ (by omega) (by omega) (by exact hGe) (by omega) (by omega) _ _ _ hP hD hS (lv_sub hl [0, 2, 1, 3, 4, 5] rfl)
                                exact L233 _ 0 Os uns nxs f2s _ _ (Nat.lt_succ_self _) (by omega) (by exact hGs) (by omega) (by omega) _ _ _ hP hD hS (lv_sub hl [0, 1, 2, 3, 4, 5] rfl)
                              ·
                                have c168 : ¬ (2 * i9) = 2 := fun h9 => c168 ((nI_eq (a := (2 * i9)) (b := 2) (by omega) (by omega)).mpr h9)
                                refine lv_aload_n hx hb dL_law_171 rfl (lv_at hl 2 rfl) ?_
                                refine lv_aload_n hx hb dL_law_172 rfl (lv_at hl 3 rfl) ?_
                                refine lv_iload hx hb dL_law_173 (lv_at hl 0 rfl) ?_
                                refine aldI hx hb hK hP 0 0 rfl rfl (2 * i9) rfl (by omega) (by decide) dL_law_175 ?_
                                refine endI (r := nI w9) (ew9) ?_
                                refine lv_aload_n hx hb dL_law_176 rfl (lv_at hl 3 rfl) ?_
                                refine lv_iload hx hb dL_law_177 (lv_at hl 0 rfl) ?_
                                refine lv_iconst (v := 1) hx hb dL_law_179 (by decide) ?_
                                refine lv_iadd hx hb dL_law_180 ?_
                                refine endI (r := nI ((2 * i9) + 1)) (nI_add _ _) ?_
                                refine aldI hx hb hK hP 0 0 rfl rfl ((2 * i9) + 1) rfl (by omega) (by decide) dL_law_181 ?_
                                refine endI (r := nI v9) (ev9) ?_
                                have hF0 : Foc ((q6, .inl (T 0, 6, .inl f6)) :: WIN T v B Os gs 0 uns nxs pl f0s f1 f2s) [] ((q6, .inl (T 0, 6, .inl f6)) :: WIN T v B Os gs 0 uns nxs pl f0s f1 f2s) [] := ⟨_, List.Perm.refl _, List.Perm.refl _⟩
                                refine jtr (S := Nat × Nat × (Nat → Int32) × List Nat) (ws1 := fun u => ([(u.1, .inr (10, [.ref u.2.1, .int 0, .int 0, .int 0])), (u.2.1, .inl (T 3, u.2.2.2.length, .inl u.2.2.1))] ++ ((q6, .inl (T 0, 6, .inl f6)) :: WIN T v B Os gs 0 uns nxs pl f0s f1 f2s) : va_W)) (wc1 := fun u => ([(u.1, .inr (10, [.ref u.2.1, .int 0, .int 0, .int 0])), (u.2.1, .inl (T 3, u.2.2.2.length, .inl u.2.2.1))] : va_W)) (ru := fun u => u.1) (va_runS (As := [.int (nI w9), .int (nI v9)]) (rest := [.ref (v 0)]) ⟨hx, hb, hml, hown, hts⟩ (c_L_window l D T x w9 v9 (by omega) (by omega) _) (va_cwS 2 hts gj85S_RL_301_L_window rfl rfl rfl (by decide +kernel) ⟨Nat.le_of_ble_eq_true rfl, Nat.le_of_ble_eq_true rfl⟩) ⟨JP.blind _ _ _ _ _ _, jpre (As := [.int (nI w9), .int (nI v9)]) hF0 hX hK hP hD hS hA⟩ rfl rfl hl.1 rfl (lv_room (m := m) (pc := 182) (ls := ls) (rest := [.int (nI v9), .int (nI w9), .ref (v 0)]) (st := [.ref (v 0)]) (Nat.le_of_ble_eq_true rfl)) dL_law_182 ⟨by show _ ≤ 679962; omega, by show _ ≤ 7061811; omega⟩) (fun u => ⟨_, List.Perm.refl _, List.Perm.refl _⟩) hF0 hP hD hS hA (fun u H locs hr hP hD hS => ?_)
                                obtain ⟨rs, qs, as, Ls⟩ := u
                                obtain ⟨hT, hTl, hTb, hTf⟩ := hr
                                replace hTl : Ls.length ≤ 384 := hTl
                                replace hTb : BL Ls as := hTb
                                have hP : va_P D vwCl ((rs, .inr (10, [.ref qs, .int 0, .int 0, .int 0])) :: (qs, .inl (T 3, Ls.length, .inl as)) :: (q6, .inl (T 0, 6, .inl f6)) :: WIN T v B Os gs 0 uns nxs pl f0s f1 f2s) H := hP
                                have hD : va_D A ((rs, .inr (10, [.ref qs, .int 0, .int 0, .int 0])) :: (qs, .inl (T 3, Ls.length, .inl as)) :: (q6, .inl (T 0, 6, .inl f6)) :: WIN T v B Os gs 0 uns nxs pl f0s f1 f2s) := hD
                                have hsw : ((rs, .inr (10, [.ref qs, .int 0, .int 0, .int 0])) :: (qs, .inl (T 3, Ls.length, .inl as)) :: (q6, .inl (T 0, 6, .inl f6)) :: WIN T v B Os gs 0 uns nxs pl f0s f1 f2s : va_W).Perm ((q6, .inl (T 0, 6, .inl f6)) :: (rs, .inr (10, [.ref qs, .int 0, .int 0, .int 0])) :: (qs, .inl (T 3, Ls.length, .inl as)) :: WIN T v B Os gs 0 uns nxs pl f0s f1 f2s) := perm3 _ _ _ _
                                replace hP := wP_perm hsw hP
                                replace hD := wD_perm hsw hD
                                refine lcSi (S := Nat → Int32) (ws1 := fun u => ((q6, .inl (T 0, 6, .inl f6)) :: WIN T v B Os gs Ls.length uns nxs pl u f1 f2s : va_W)) (wc1 := fun u => (WIN T v B Os gs Ls.length uns nxs pl u f1 f2s : va_W)) (ws := (q6, .inl (T 0, 6, .inl f6)) :: (rs, .inr (10, [.ref qs, .int 0, .int 0, .int 0])) :: (qs, .inl (T 3, Ls.length, .inl as)) :: WIN T v B Os gs 0 uns nxs pl f0s f1 f2s) (wc := (rs, .inr (10, [.ref qs, .int 0, .int 0, .int 0])) :: (qs, .inl (T 3, Ls.length, .inl as)) :: WIN T v B Os gs 0 uns nxs pl f0s f1 f2s) (As := [.ref (v 0), .ref (rs)]) (rest := []) ⟨hx, hb, hml, hown, hts⟩ (c_L_feeds l hl9 D T aK aV v B Os gs 0 uns nxs pl f0s f1 f2s rs qs Ls.length as Ns Ks Cs nts hOIs hTl (fun k hk => ⟨Ls.getD k 0, hT.al k, hTb k hk⟩) _) (va_cwS 2 hts (gJ_up gl_L_feeds) rfl rfl rfl (by decide +kernel) ⟨Nat.le_of_ble_eq_true rfl, Nat.le_of_ble_eq_true rfl⟩) (fun u => Foc.pre [(q6, .inl (T 0, 6, .inl f6))] _ _) (Foc.pre [(q6, .inl (T 0, 6, .inl f6))] _ _) hC hNC hK hP hD hS hA rfl hl.1 rfl (Nat.le_of_ble_eq_true rfl) ⟨by show _ ≤ 679962; omega, by show _ ≤ 7061811; omega⟩ dL_law_185 (fun r9 u H locs hr hP hD hS => ?_)
                                obtain ⟨hr, hfu⟩ := hr
                                subst hr
                                generalize u = fu at hP hD hfu
                                have hP : va_P D vwCl ((q6, .inl (T 0, 6, .inl f6)) :: WIN T v B Os gs Ls.length uns nxs pl fu f1 f2s) H := hP
                                have hD : va_D A ((q6, .inl (T 0, 6, .inl f6)) :: WIN T v B Os gs Ls.length uns nxs pl fu f1 f2s) := hD
                                refine lv_if_eq (tgt := 228) hx hb dL_law_188 (by decide) (fun c188 => ?_) (fun c188 => ?_)
                                ·
                                  exact absurd c188 (by decide)
                                ·
                                  refine lv_aload_n hx hb dL_law_191 rfl (lv_at hl 2 rfl) ?_
                                  refine lv_bipush (v := 12) hx hb dL_law_192 (by decide) ?_
                                  refine lv_iconst (v := 0) hx hb dL_law_194 (by decide) ?_
                                  refine lcSi (S := S5) (ws1 := fun u => ((q6, .inl (T 0, 6, .inl f6)) :: WIN T v B u.1 u.2.1 0 0 nxs pl fu f1 u.2.2 : va_W)) (wc1 := fun u => (WIN T v B u.1 u.2.1 0 0 nxs pl fu f1 u.2.2 : va_W)) (As := [.ref (v 0), .int (12), .int (0)]) (rest := []) ⟨hx, hb, hml, hown, hts⟩ (c_ex_load l hl9 D T aK aV v B Os gs Ls.length uns nxs pl fu f1 f2s hT rfl (by omega) (fun i hi => (hfu i hi).trans (hTb i hi)) hGs.nx8 _) (va_cwS 3 hts (gJ_up gl_L_call__) rfl rfl rfl (by decide +kernel) ⟨Nat.le_of_ble_eq_true rfl, Nat.le_of_ble_eq_true rfl⟩) (fun u => Foc.pre [(q6, .inl (T 0, 6, .inl f6))] _ _) (Foc.pre [(q6, .inl (T 0, 6, .inl f6))] _ _) hC hNC hK hP hD hS hA rfl hl.1 rfl (Nat.le_of_ble_eq_true rfl) ⟨by show _ ≤ 679962; omega, by show _ ≤ 7061811; omega⟩ dL_law_195 (fun r9 u H locs hr hP hD hS => ?_)
                                  obtain ⟨Ol, gl, f2l⟩ := u
                                  obtain ⟨Nl, Kl, Cl, hr, hOVl, hgl, hGl⟩ := hr
                                  subst hr
                                  replace hOVl : OV (Ol 0) Nl Kl Cl 0 := hOVl
                                  replace hGl : GW Ol 0 nxs f2l := hGl
                                  replace hgl : gl.2.2.2.1 = false := hgl
                                  have hOIl := hOVl.oi
                                  have hP : va_P D vwCl ((q6, .inl (T 0, 6, .inl f6)) :: WIN T v B Ol gl 0 0 nxs pl fu f1 f2l) H := hP
                                  have hD : va_D A ((q6, .inl (T 0, 6, .inl f6)) :: WIN T v B Ol gl 0 0 nxs pl fu f1 f2l) := hD
                                  refine lv_aload_n hx hb dL_law_198 rfl (lv_at hl 2 rfl) ?_
                                  refine rdV (As := []) (rest := [.int (nI Nl)]) ⟨hx, hb, hml, hown, hts⟩ (c_X9_complaintCount l D T v B Ol gl 0 0 nxs pl fu f1 f2l ) (cwV 0 hts (gJ_up gl_X9_complaintCount) rfl rfl rfl (by decide +kernel) ⟨Nat.le_of_ble_eq_true rfl, Nat.le_of_ble_eq_true rfl⟩) hK (wTail (x := [(q6, .inl (T 0, 6, .inl f6))]) hP hD).1 0 rfl rfl rfl hl.1 rfl (Nat.le_of_ble_eq_true rfl) ⟨by show _ ≤ 679962; omega, by show _ ≤ 7061811; omega⟩ dL_law_199 ?_
                                  refine endI (r := nI Nl) (hOIl.1) ?_
                                  refine lv_icmp_ne (tgt := 228) hx hb dL_law_202 (by decide) (fun c202 => ?_) (fun c202 => ?_)
                                  ·
                                    exact absurd rfl c202
                                  ·
                                    refine lv_aload_n hx hb dL_law_205 rfl (lv_at hl 2 rfl) ?_
                                    refine rdV (As := []) (rest := []) ⟨hx, hb, hml, hown, hts⟩ (c_X9_hasError l D T v B Ol gl 0 0 nxs pl fu f1 f2l ) (cwV 0 hts (gJ_up gl_X9_hasError) rfl rfl rfl (by decide +kernel) ⟨Nat.le_of_ble_eq_true rfl, Nat.le_of_ble_eq_true rfl⟩) hK (wTail (x := [(q6, .inl (T 0, 6, .inl f6))]) hP hD).1 0 rfl rfl rfl hl.1 rfl (Nat.le_of_ble_eq_true rfl) ⟨by show _ ≤ 679962; omega, by show _ ≤ 7061811; omega⟩ dL_law_206 ?_
                                    refine endI (r := 0) (by rw [hgl]; rfl) ?_
                                    refine lv_if_ne (tgt := 228) hx hb dL_law_209 (by decide) (fun c209 => ?_) (fun c209 => ?_)
                                    ·
                                      exact absurd c209 (by decide)
                                    ·
                                      refine lv_aload_n hx hb dL_law_212 rfl (lv_at hl 2 rfl) ?_
                                      refine lv_bipush (v := 9) hx hb dL_law_213 (by decide) ?_
                                      refine lv_iconst (v := 0) hx hb dL_law_215 (by decide) ?_
                                      refine lqSi (As := [.ref (v 0), .int (9), .int (0)]) (rest := []) ⟨hx, hb, hml, hown, hts⟩ (c_ask_bad9 l hl9 D T aK aV v B Ol gl 0 0 nxs pl fu f1 f2l Nl Kl Cl 0 hOIl rfl (by omega) hGl.nx8 _) (va_cwS 3 hts (gJ_up gl_L_call__) rfl rfl rfl (by decide +kernel) ⟨Nat.le_of_ble_eq_true rfl, Nat.le_of_ble_eq_true rfl⟩) (Foc.pre [(q6, .inl (T 0, 6, .inl f6))] _ _) hC hNC hK hP hD hS hA rfl hl.1 rfl (Nat.le_of_ble_eq_true rfl) ⟨by show _ ≤ 679962; omega, by show _ ≤ 7061811; omega⟩ dL_law_216 (fun H locs hP hD hS => ?_)
                                      have hP : va_P D vwCl ((q6, .inl (T 0, 6, .inl f6)) :: WIN T v B Ol gl 0 0 nxs pl fu f1 f2l) H := hP
                                      have hD : va_D A ((q6, .inl (T 0, 6, .inl f6)) :: WIN T v B Ol gl 0 0 nxs pl fu f1 f2l) := hD
                                      refine lv_bipush (v := -102) hx hb dL_law_219 (by decide) ?_
                                      refine lv_icmp_ne (tgt := 228) hx hb dL_law_221 (by decide) (fun c221 => ?_) (fun c221 => ?_)
                                      ·
                                        exact absurd c221 (by decide)
                                      ·
                                        refine lv_iconst (v := 1) hx hb dL_law_224 (by decide) ?_
                                        refine lv_goto (tgt := 229) hx hb dL_law_225 (by decide) ?_
                                        refine lv_istore_n (lv' := [(3, .int (1)), (4, .int (nI (2 * i9))), (2, .ref (v 0)), (1, .ref (q6)), (0, .ref (b9s))]) hx hb dL_law_229 rfl hl (by decide) rfl (fun ls hl => ?_)
                                        refine lv_iconst (v := 0) hx hb dL_law_230 (by decide) ?_
                                        refine lv_istore (lv' := [(5, .int (0)), (3, .int (1)), (4, .int (nI (2 * i9))), (2, .ref (v 0)), (1, .ref (q6)), (0, .ref (b9s))]) hx hb dL_law_231 hl (by decide) rfl (fun ls hl => ?_)
                                        have L233 : ∀ (n9 : Nat) (j9 : Nat) (Od : Nat → Nat → Nat → Int32) (und : Nat) (nxd : Nat) (f2d : Nat → Int32) (cb3 sb3 : Nat), (9 - j9) < n9 → (j9 ≤ 9) → (GW Od und nxd f2d) → cb3 ≤ 1000 + 8220 + 90000 * i9 + 2378 + 2900 * j9 → sb3 ≤ 10000 + 49320 + 900000 * i9 + 142848 + 17400 * j9 → ∀ (H : Heap) (locs : List Loc) (ls : Array Slot), va_P D vwCl ((q6, .inl (T 0, 6, .inl f6)) :: WIN T v B Od gl 0 und nxd pl fu f1 f2d) H → va_D A ((q6, .inl (T 0, 6, .inl f6)) :: WIN T v B Od gl 0 und nxd pl fu f1 f2d) → va_S A s.heap H locs → lv_has ls 7 [(5, .int (nI j9)), (3, .int (1)), (4, .int (nI (2 * i9))), (2, .ref (v 0)), (1, .ref (q6)), (0, .ref (b9s))] → W p l e room_1 s m args below meth c H locs cb3 sb3 Q (F0 m 233 ls []) := by
                                          intro n9
                                          induction n9 with
                                          | zero => intro j9 Od und nxd f2d cb3 sb3 hm9; exact absurd hm9 (Nat.not_lt_zero _)
                                          | succ n9 ih233 =>
                                            intro j9 Od und nxd f2d cb3 sb3 hm9 hj9 hGd hcb3 hsb3 H locs ls hP hD hS hl
                                            obtain ⟨Nd, Kd, Cd, nd, hnd, hOVd⟩ := hGd.2.2.1
                                            have hOId := hOVd.oi
                                            have hund := hGd.un8
                                            have hnxd := hGd.nx8
                                            refine lv_iload hx hb dL_law_233 (lv_at hl 0 rfl) ?_
                                            refine lv_bipush (v := 9) hx hb dL_law_235 (by decide) ?_
                                            refine lv_icmp_ge (tgt := 275) hx hb dL_law_237 (by decide) (fun c237 => ?_) (fun c237 => ?_)
                                            ·
                                              have c237 : 9 ≤ j9 := (nI_leI (a := 9) (b := j9) (by omega) (by omega)).mp c237
                                              refine lv_iload_n hx hb dL_law_275 rfl (lv_at hl 1 rfl) ?_
                                              refine lv_if_eq (tgt := 286) hx hb dL_law_276 (by decide) (fun c276 => ?_) (fun c276 => ?_)
                                              ·
                                                exact absurd c276 (by decide)
                                              ·
                                                refine lv_aload_n hx hb dL_law_279 rfl (lv_at hl 3 rfl) ?_
                                                refine lqSl (As := [.ref (v 0)]) (rest := []) ⟨hx, hb, hml, hown, hts⟩ (c_L_state l hl9 D T aK aV v B Od gl 0 und nxd pl fu f1 f2d Nd Kd Cd nd hOId _) (va_cwS 1 hts (gJ_up gl_L_state) rfl rfl rfl (by decide +kernel) ⟨Nat.le_of_ble_eq_true rfl, Nat.le_of_ble_eq_true rfl⟩) (Foc.pre [(q6, .inl (T 0, 6, .inl f6))] _ _) hC hNC hK hP hD hS hA rfl hl.1 rfl (Nat.le_of_ble_eq_true rfl) ⟨by show _ ≤ 679962; omega, by show _ ≤ 7061811; omega⟩ dL_law_280 (fun H locs hP hD hS => ?_)
                                                have hP : va_P D vwCl ((q6, .inl (T 0, 6, .inl f6)) :: WIN T v B Od gl 0 und nxd pl fu f1 f2d) H := hP
                                                have hD : va_D A ((q6, .inl (T 0, 6, .inl f6)) :: WIN T v B Od gl 0 und nxd pl fu f1 f2d) := hD
                                                refine lv_goto (tgt := 287) hx hb dL_law_283 (by decide) ?_
                                                refine lv_lstore (lv' := [(5, .long (stC (Od 0) Nd Kd Cd)), (3, .int (1)), (4, .int (nI (2 * i9))), (2, .ref (v 0)), (1, .ref (q6)), (0, .ref (b9s))]) hx hb dL_law_287 hl (by decide) rfl (fun ls hl => ?_)
                                                refine lv_iload_n hx hb dL_law_289 rfl (lv_at hl 1 rfl) ?_
                                                refine lv_if_eq (tgt := 355) hx hb dL_law_290 (by decide) (fun c290 => ?_) (fun c290 => ?_)
                                                ·
                                                  exact absurd c290 (by decide)
                                                ·
                                                  refine lv_aload_n hx hb dL_law_293 rfl (lv_at hl 3 rfl) ?_
                                                  refine lv_aload_n hx hb dL_law_294 rfl (lv_at hl 4 rfl) ?_
                                                  refine lv_iload hx hb dL_law_295 (lv_at hl 2 rfl) ?_
                                                  refine aldI hx hb hK hP 0 0 rfl rfl (2 * i9) rfl (by omega) (by decide) dL_law_297 ?_
                                                  refine endI (r := nI w9) (ew9) ?_
                                                  refine lqSi (As := [.ref (v 0), .int (nI w9)]) (rest := []) ⟨hx, hb, hml, hown, hts⟩ (c_L_moon l hl9 D T aK aV v B Od gl 0 und nxd pl fu f1 f2d w9 Nd Kd Cd nd hOId (by omega) hOVd.cl (by omega) _) (va_cwS 2 hts (gJ_up gl_L_moon) rfl rfl rfl (by decide +kernel) ⟨Nat.le_of_ble_eq_true rfl, Nat.le_of_ble_eq_true rfl⟩) (Foc.pre [(q6, .inl (T 0, 6, .inl f6))] _ _) hC hNC hK hP hD hS hA rfl hl.1 rfl (Nat.le_of_ble_eq_true rfl) ⟨by show _ ≤ 679962; omega, by show _ ≤ 7061811; omega⟩ dL_law_298 (fun H locs hP hD hS => ?_)
                                                  have hP : va_P D vwCl ((q6, .inl (T 0, 6, .inl f6)) :: WIN T v B Od gl 0 und nxd pl fu f1 f2d) H := hP
                                                  have hD : va_D A ((q6, .inl (T 0, 6, .inl f6)) :: WIN T v B Od gl 0 und nxd pl fu f1 f2d) := hD
                                                  refine lv_if_eq (tgt := 355) hx hb dL_law_301 (by decide) (fun c301 => ?_) (fun c301 => ?_)
                                                  ·
                                                    exact absurd c301 (by decide)
                                                  ·
                                                    refine lv_aload_n hx hb dL_law_304 rfl (lv_at hl 3 rfl) ?_
                                                    refine lqSi (As := [.ref (v 0)]) (rest := []) ⟨hx, hb, hml, hown, hts⟩ (c_L_books l hl9 D T aK aV v B Od gl 0 und nxd pl fu f1 f2d Nd Kd Cd nd hOId (by omega) (by omega) _) (va_cwS 1 hts (gJ_up gl_L_books) rfl rfl rfl (by decide +kernel) ⟨Nat.le_of_ble_eq_true rfl, Nat.le_of_ble_eq_true rfl⟩) (Foc.pre [(q6, .inl (T 0, 6, .inl f6))] _ _) hC hNC hK hP hD hS hA rfl hl.1 rfl (Nat.le_of_ble_eq_true rfl) ⟨by show _ ≤ 679962; omega, by show _ ≤ 7061811; omega⟩ dL_law_305 (fun H locs hP hD hS => ?_)
                                                    have hP : va_P D vwCl ((q6, .inl (T 0, 6, .inl f6)) :: WIN T v B Od gl 0 und nxd pl fu f1 f2d) H := hP
                                                    have hD : va_D A ((q6, .inl (T 0, 6, .inl f6)) :: WIN T v B Od gl 0 und nxd pl fu f1 f2d) := hD
                                                    refine lv_if_eq (tgt := 355) hx hb dL_law_308 (by decide) (fun c308 => ?_) (fun c308 => ?_)
                                                    ·
                                                      exact absurd c308 (by decide)
                                                    ·
                                                      refine lv_aload_n hx hb dL_law_311 rfl (lv_at hl 3 rfl) ?_
                                                      refine lqSl (As := [.ref (v 0)]) (rest := []) ⟨hx, hb, hml, hown, hts⟩ (c_L_state l hl9 D T aK aV v B Od gl 0 und nxd pl fu f1 f2d Nd Kd Cd nd hOId _) (va_cwS 1 hts (gJ_up gl_L_state) rfl rfl rfl (by decide +kernel) ⟨Nat.le_of_ble_eq_true rfl, Nat.le_of_ble_eq_true rfl⟩) (Foc.pre [(q6, .inl (T 0, 6, .inl f6))] _ _) hC hNC hK hP hD hS hA rfl hl.1 rfl (Nat.le_of_ble_eq_true rfl) ⟨by show _ ≤ 679962; omega, by show _ ≤ 7061811; omega⟩ dL_law_312 (fun H locs hP hD hS => ?_)
                                                      have hP : va_P D vwCl ((q6, .inl (T 0, 6, .inl f6)) :: WIN T v B Od gl 0 und nxd pl fu f1 f2d) H := hP
                                                      have hD : va_D A ((q6, .inl (T 0, 6, .inl f6)) :: WIN T v B Od gl 0 und nxd pl fu f1 f2d) := hD
                                                      refine lv_lload hx hb dL_law_315 (lv_at hl 0 rfl) ?_
                                                      refine W.lcmp hx hb dL_law_317 ?_
                                                      refine endI (r := 0) ((lg_cmp_eq _ _).mpr rfl) ?_
                                                      refine lv_if_ne (tgt := 355) hx hb dL_law_318 (by decide) (fun c318 => ?_) (fun c318 => ?_)
                                                      ·
                                                        exact absurd c318 (by decide)
                                                      ·
                                                        refine lv_aload_n hx hb dL_law_321 rfl (lv_at hl 3 rfl) ?_
                                                        refine lcSi (S := S3) (ws1 := fun u => ((q6, .inl (T 0, 6, .inl f6)) :: WIN T v B u.1 gl 0 u.2.1 u.2.2 pl fu f1 f2d : va_W)) (wc1 := fun u => (WIN T v B u.1 gl 0 u.2.1 u.2.2 pl fu f1 f2d : va_W)) (As := [.ref (v 0)]) (rest := []) ⟨hx, hb, hml, hown, hts⟩ (c_L_night l hl9 D T aK aV v B Od gl 0 und nxd pl fu f1 f2d Nd Kd Cd nd hOId hOVd hGd hnd _) (va_cwS 1 hts (gJ_up gl_L_night) rfl rfl rfl (by decide +kernel) ⟨Nat.le_of_ble_eq_true rfl, Nat.le_of_ble_eq_true rfl⟩) (fun u => Foc.pre [(q6, .inl (T 0, 6, .inl f6))] _ _) (Foc.pre [(q6, .inl (T 0, 6, .inl f6))] _ _) hC hNC hK hP hD hS hA rfl hl.1 rfl (Nat.le_of_ble_eq_true rfl) ⟨by show _ ≤ 679962; omega, by show _ ≤ 7061811; omega⟩ dL_law_322 (fun r9 u H locs hr hP hD hS => ?_)
                                                        obtain ⟨On, unn, nxn⟩ := u
                                                        obtain ⟨hr, hOn, hGn⟩ := hr
                                                        subst hr
                                                        replace hOn : On 0 = Od 0 := hOn
                                                        replace hGn : GW On unn nxn f2d := hGn
                                                        have hOVn : OV (On 0) Nd Kd Cd nd := by rw [hOn]; exact hOVd
                                                        have hOIn := hOVn.oi
                                                        have hP : va_P D vwCl ((q6, .inl (T 0, 6, .inl f6)) :: WIN T v B On gl 0 unn nxn pl fu f1 f2d) H := hP
                                                        have hD : va_D A ((q6, .inl (T 0, 6, .inl f6)) :: WIN T v B On gl 0 unn nxn pl fu f1 f2d) := hD
                                                        refine lv_if_eq (tgt := 355) hx hb dL_law_325 (by decide) (fun c325 => ?_) (fun c325 => ?_)
                                                        ·
                                                          exact absurd c325 (by decide)
                                                        ·
                                                          refine lv_aload_n hx hb dL_law_328 rfl (lv_at hl 3 rfl) ?_
                                                          refine lv_aload_n hx hb dL_law_329 rfl (lv_at hl 4 rfl) ?_
                                                          refine lv_iload hx hb dL_law_330 (lv_at hl 2 rfl) ?_
                                                          refine lv_iconst (v := 1) hx hb dL_law_332 (by decide) ?_
                                                          refine lv_iadd hx hb dL_law_333 ?_
                                                          refine endI (r := nI ((2 * i9) + 1)) (nI_add _ _) ?_
                                                          refine aldI hx hb hK hP 0 0 rfl rfl ((2 * i9) + 1) rfl (by omega) (by decide) dL_law_334 ?_
                                                          refine endI (r := nI v9) (ev9) ?_
                                                          refine lcSi (S := S3) (ws1 := fun u => ((q6, .inl (T 0, 6, .inl f6)) :: WIN T v B u.1 gl 0 u.2.1 u.2.2 pl fu f1 f2d : va_W)) (wc1 := fun u => (WIN T v B u.1 gl 0 u.2.1 u.2.2 pl fu f1 f2d : va_W)) (As := [.ref (v 0), .int (nI v9)]) (rest := []) ⟨hx, hb, hml, hown, hts⟩ (c_L_ahead l hl9 D T aK aV v B On gl 0 unn nxn pl fu f1 f2d v9 Nd Kd Cd nd hOIn (by omega) hOVn hGn hnd _) (va_cwS 2 hts (gJ_up gl_L_ahead) rfl rfl rfl (by decide +kernel) ⟨Nat.le_of_ble_eq_true rfl, Nat.le_of_ble_eq_true rfl⟩) (fun u => Foc.pre [(q6, .inl (T 0, 6, .inl f6))] _ _) (Foc.pre [(q6, .inl (T 0, 6, .inl f6))] _ _) hC hNC hK hP hD hS hA rfl hl.1 rfl (Nat.le_of_ble_eq_true rfl) ⟨by show _ ≤ 679962; omega, by show _ ≤ 7061811; omega⟩ dL_law_335 (fun r9 u H locs hr hP hD hS => ?_)
                                                          obtain ⟨Oa, una, nxa⟩ := u
                                                          obtain ⟨hr, hOa, hGa⟩ := hr
                                                          subst hr
                                                          replace hOa : Oa 0 = Od 0 := hOa.trans hOn
                                                          replace hGa : GW Oa una nxa f2d := hGa
                                                          have hOVa : OV (Oa 0) Nd Kd Cd nd := by rw [hOa]; exact hOVd
                                                          have hOIa := hOVa.oi
                                                          have hP : va_P D vwCl ((q6, .inl (T 0, 6, .inl f6)) :: WIN T v B Oa gl 0 una nxa pl fu f1 f2d) H := hP
                                                          have hD : va_D A ((q6, .inl (T 0, 6, .inl f6)) :: WIN T v B Oa gl 0 una nxa pl fu f1 f2d) := hD
                                                          refine lv_if_eq (tgt := 355) hx hb dL_law_338 (by decide) (fun c338 => ?_) (fun c338 => ?_)
                                                          ·
                                                            exact absurd c338 (by decide)
                                                          ·
                                                            refine lv_aload_n hx hb dL_law_341 rfl (lv_at hl 3 rfl) ?_
                                                            refine lqSl (As := [.ref (v 0)]) (rest := []) ⟨hx, hb, hml, hown, hts⟩ (c_L_state l hl9 D T aK aV v B Oa gl 0 una nxa pl fu f1 f2d Nd Kd Cd nd hOIa _) (va_cwS 1 hts (gJ_up gl_L_state) rfl rfl rfl (by decide +kernel) ⟨Nat.le_of_ble_eq_true rfl, Nat.le_of_ble_eq_true rfl⟩) (Foc.pre [(q6, .inl (T 0, 6, .inl f6))] _ _) hC hNC hK hP hD hS hA rfl hl.1 rfl (Nat.le_of_ble_eq_true rfl) ⟨by show _ ≤ 679962; omega, by show _ ≤ 7061811; omega⟩ dL_law_342 (fun H locs hP hD hS => ?_)
                                                            have hP : va_P D vwCl ((q6, .inl (T 0, 6, .inl f6)) :: WIN T v B Oa gl 0 una nxa pl fu f1 f2d) H := hP
                                                            have hD : va_D A ((q6, .inl (T 0, 6, .inl f6)) :: WIN T v B Oa gl 0 una nxa pl fu f1 f2d) := hD
                                                            refine endL (r := stC (Od 0) Nd Kd Cd) (by rw [hOa]) ?_
                                                            refine lv_lload hx hb dL_law_345 (lv_at hl 0 rfl) ?_
                                                            refine W.lcmp hx hb dL_law_347 ?_
                                                            refine endI (r := 0) ((lg_cmp_eq _ _).mpr rfl) ?_
                                                            refine lv_if_ne (tgt := 355) hx hb dL_law_348 (by decide) (fun c348 => ?_) (fun c348 => ?_)
                                                            ·
                                                              exact absurd c348 (by decide)
                                                            ·
                                                              refine lv_iconst (v := 1) hx hb dL_law_351 (by decide) ?_
                                                              refine lv_goto (tgt := 356) hx hb dL_law_352 (by decide) ?_
                                                              refine lv_istore_n (lv' := [(3, .int (1)), (5, .long (stC (Od 0) Nd Kd Cd)), (4, .int (nI (2 * i9))), (2, .ref (v 0)), (1, .ref (q6)), (0, .ref (b9s))]) hx hb dL_law_356 rfl hl (by decide) rfl (fun ls hl => ?_)
                                                              refine lv_iinc (v := nI ((2 * i9) + 2)) (lv' := [(4, .int (nI ((2 * i9) + 2))), (3, .int (1)), (5, .long (stC (Od 0) Nd Kd Cd)), (2, .ref (v 0)), (1, .ref (q6)), (0, .ref (b9s))]) hx hb dL_law_357 hl (k := 2) rfl (nI_add _ _) (by decide) rfl (fun ls hl => ?_)
                                                              refine lv_goto (tgt := 152) hx hb dL_law_360 (by decide) ?_
                                                              exact ih152 ((i9 + 1)) Oa gl una nxa fu f2d Nd Kd Cd nd _ _ (by omega) (by omega) (by exact hOVa) (by exact hGa) (by exact hnd) (by omega) (by omega) _ _ _ hP hD hS (lv_sub hl [0, 1, 3, 4, 5] rfl)
                                            ·
                                              have c237 : ¬ 9 ≤ j9 := fun h9 => c237 ((nI_leI (a := 9) (b := j9) (by omega) (by omega)).mpr h9)
                                              refine lv_iload_n hx hb dL_law_240 rfl (lv_at hl 1 rfl) ?_
                                              refine lv_if_eq (tgt := 275) hx hb dL_law_241 (by decide) (fun c241 => ?_) (fun c241 => ?_)
                                              ·
                                                exact absurd c241 (by decide)
                                              ·
                                                refine lv_aload_n hx hb dL_law_244 rfl (lv_at hl 3 rfl) ?_
                                                refine lv_aload_n hx hb dL_law_245 rfl (lv_at hl 4 rfl) ?_
                                                refine lv_iload hx hb dL_law_246 (lv_at hl 2 rfl) ?_
                                                refine aldI hx hb hK hP 0 0 rfl rfl (2 * i9) rfl (by omega) (by decide) dL_law_248 ?_
                                                refine endI (r := nI w9) (ew9) ?_
                                                refine lv_iconst (v := 3) hx hb dL_law_249 (by decide) ?_
                                                refine lv_iload hx hb dL_law_250 (lv_at hl 0 rfl) ?_
                                                refine lv_imul hx hb dL_law_252 ?_
                                                refine endI (r := nI (3 * j9)) (pk_mul _ _) ?_
                                                refine lv_ishr hx hb dL_law_253 ?_
                                                refine endI (r := nI (w9 / 2 ^ (3 * j9))) (nI_shr hw9 (by omega)) ?_
                                                refine lv_aload_n hx hb dL_law_254 rfl (lv_at hl 4 rfl) ?_
                                                refine lv_iload hx hb dL_law_255 (lv_at hl 2 rfl) ?_
                                                refine lv_iconst (v := 1) hx hb dL_law_257 (by decide) ?_
                                                refine lv_iadd hx hb dL_law_258 ?_
                                                refine endI (r := nI ((2 * i9) + 1)) (nI_add _ _) ?_
                                                refine aldI hx hb hK hP 0 0 rfl rfl ((2 * i9) + 1) rfl (by omega) (by decide) dL_law_259 ?_
                                                refine endI (r := nI v9) (ev9) ?_
                                                refine lv_iconst (v := 2) hx hb dL_law_260 (by decide) ?_
                                                refine lv_iload hx hb dL_law_261 (lv_at hl 0 rfl) ?_
                                                refine lv_imul hx hb dL_law_263 ?_
                                                refine endI (r := nI (2 * j9)) (pk_mul _ _) ?_
                                                refine lv_ishr hx hb dL_law_264 ?_
                                                refine endI (r := nI (v9 / 2 ^ (2 * j9))) (nI_shr hv9 (by omega)) ?_
                                                refine lcSi (S := S4) (ws1 := fun u => ((q6, .inl (T 0, 6, .inl f6)) :: WIN T v B u.1 gl 0 u.2.1 u.2.2.1 pl fu f1 u.2.2.2 : va_W)) (wc1 := fun u => (WIN T v B u.1 gl 0 u.2.1 u.2.2.1 pl fu f1 u.2.2.2 : va_W)) (As := [.ref (v 0), .int (nI (w9 / 2 ^ (3 * j9))), .int (nI (v9 / 2 ^ (2 * j9)))]) (rest := []) ⟨hx, hb, hml, hown, hts⟩ (c_L_does l hl9 D T aK aV v B Od gl 0 und nxd pl fu f1 f2d (w9 / 2 ^ (3 * j9)) (v9 / 2 ^ (2 * j9)) Nd Kd Cd nd hOId (Nat.lt_of_le_of_lt (Nat.div_le_self _ _) hw9) (Nat.lt_of_le_of_lt (Nat.div_le_self _ _) hv9) hOVd hGd hnd _) (va_cwS 3 hts (gJ_up gl_L_does) rfl rfl rfl (by decide +kernel) ⟨Nat.le_of_ble_eq_true rfl, Nat.le_of_ble_eq_true rfl⟩) (fun u => Foc.pre [(q6, .inl (T 0, 6, .inl f6))] _ _) (Foc.pre [(q6, .inl (T 0, 6, .inl f6))] _ _) hC hNC hK hP hD hS hA rfl hl.1 rfl (Nat.le_of_ble_eq_true rfl) ⟨by show _ ≤ 679962; omega, by show _ ≤ 7061811; omega⟩ dL_law_265 (fun r9 u H locs hr hP hD hS => ?_)
                                                obtain ⟨Oe, une, nxe, f2e⟩ := u
                                                obtain ⟨hr, hGe⟩ := hr
                                                subst hr
                                                replace hGe : GW Oe une nxe f2e := hGe
                                                have hP : va_P D vwCl ((q6, .inl (T 0, 6, .inl f6)) :: WIN T v B Oe gl 0 une nxe pl fu f1 f2e) H := hP
                                                have hD : va_D A ((q6, .inl (T 0, 6, .inl f6)) :: WIN T v B Oe gl 0 une nxe pl fu f1 f2e) := hD
                                                refine lv_istore_n (lv' := [(3, .int (1)), (5, .int (nI j9)), (4, .int (nI (2 * i9))), (2, .ref (v 0)), (1, .ref (q6)), (0, .ref (b9s))]) hx hb dL_law_268 rfl hl (by decide) rfl (fun ls hl => ?_)
                                                refine lv_iinc (v := nI (j9 + 1)) (lv' := [(5, .int (nI (j9 + 1))), (3, .int (1)), (4, .int (nI (2 * i9))), (2, .ref (v 0)), (1, .ref (q6)), (0, .ref (b9s))]) hx hb dL_law_269 hl (k := 1) rfl (nI_add _ _) (by decide) rfl (fun ls hl => ?_)
                                                refine lv_goto (tgt := 233) hx hb dL_law_272 (by decide) ?_
                                                exact ih233 (j9 + 1) Oe une nxe f2e _ _ (by omega) (by omega) (by exact hGe) (by omega) (by omega) _ _ _ hP hD hS (lv_sub hl [0, 1, 2, 3, 4, 5] rfl)
                                        exact L233 _ 0 Ol 0 nxs f2l _ _ (Nat.lt_succ_self _) (by omega) (by exact hGl) (by omega) (by omega) _ _ _ hP hD hS (lv_sub hl [0, 1, 2, 3, 4, 5] rfl)
                      exact L152 _ 0 O g 0 0 f0 f2 4 2 3 0 _ _ (Nat.lt_succ_self _) (by omega) (by exact hOV) (by exact hG) (by omega) (by omega) (by omega) _ _ _ hP hD hS (lv_sub hl [0, 1, 2, 3, 4] rfl)
