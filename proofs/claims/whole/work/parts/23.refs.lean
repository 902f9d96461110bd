set_option maxHeartbeats 4000000 in
set_option maxRecDepth 100000 in
theorem c_X10_readText (l : Launch) (D : va_G) (T : Nat → ClassId) (b : Nat → Nat) (y : Nat → Nat → Int32) (g : PSt) (L : Nat) (hL : y 0 1 = nI L) (hL2 : L ≤ 600) (hat : g.1 ≤ L) (hd4 : y 2 4 = nI 0) (hd5 : y 2 5 = nI 0) (hd6 : y 2 6 = nI 0) (sz : Nat) : Met l yX10_readText wsX10_readText ({ frames := 6, cells := 0, slots := 0, locals := 128 } : Room) (va_Pc [.ref (b 0)] (PS D T (PARW T b y g) sz)) (va_Qv (fun (_ : Unit) => True) (fun _ t => QS D T (va_A (PARW T b y g) sz) (PARW T b (va_up y 2 ((txR (y 7) L (y 2) g).1)) ((txR (y 7) L (y 2) g).2)) t) (va_A (PARW T b y g) sz)) 0 0 (va_A (PARW T b y g) sz) := by
  refine metSv (cc := cX10_readText) (maxL := 1) (by decide) rfl (Nat.le_of_ble_eq_true rfl) ?_
  intro p e s m args below meth c Q ls A hx hb hml hown hts hP hK hD hA hS hl hret
  have hown : s.vm.findClass RX10 = some m.cls := hown
  have hl : lv_has ls 1 [(0, .ref (b 0))] := hl
  have i10 : ∀ w ∈ wsX100, w ∈ wsX10_readText := by decide +kernel
  have w1 := hts (Cond.constantLong RX10 237 (267233)) (List.mem_of_getElem? (i := 1) rfl)
  have w2 := hts (Cond.fieldLink RX10 13 "MoonComplaintWindowModel" "draft" "[I") (List.mem_of_getElem? (i := 2) rfl)
  have w3 := hts (Cond.fieldLink RX10 185 "MoonComplaintWindowModel" "kind" "I") (List.mem_of_getElem? (i := 3) rfl)
  have w4 := hts (Cond.constantLong RX10 239 (49734694)) (List.mem_of_getElem? (i := 4) rfl)
  have w5 := hts (Cond.fieldLink RX10 204 "MoonComplaintWindowModel" "isWrong" "Z") (List.mem_of_getElem? (i := 5) rfl)
  have w6 := hts (Cond.constantLong RX10 244 (1834661)) (List.mem_of_getElem? (i := 6) rfl)
  have w7 := hts (Cond.constantLong RX10 249 (1009466360291)) (List.mem_of_getElem? (i := 7) rfl)
  obtain ⟨C0, hC0⟩ : ∃ C0 : Nat, C0 = 0 := ⟨0, rfl⟩
  obtain ⟨h1, h2, h3, h4, h5, h6⟩ := tx_le (f := y 7) (d := y 2) hat
  have hD4 : txD (y 7) L (y 2) g 4 = nI 0 := hd4
  have hD5 : txD (y 7) L (y 2) g 5 = nI 0 := hd5
  have hD6 : txD (y 7) L (y 2) g 6 = nI 0 := hd6
  have K173 : ((tn1 (y 7) L (y 2) g).2.2.1 ≤ L) → ∀ (H : Heap) (locs : List Loc) (ls : Array Slot), va_P D vwCl (PARW T b (va_up y 2 ((tn1 (y 7) L (y 2) g).2.1)) ((tn1 (y 7) L (y 2) g).2.2)) H → va_D A (PARW T b (va_up y 2 ((tn1 (y 7) L (y 2) g).2.1)) ((tn1 (y 7) L (y 2) g).2.2)) → va_S A s.heap H locs → lv_has ls 1 [(0, .ref (b 0))] → W p l e ({ frames := 6, cells := 0, slots := 0, locals := 128 } : Room) s m args below meth c H locs 0 0 Q (F0 m 173 ls []) := by
    intro hat1 H locs ls hP hD hS hl
    refine lv_aload_n hx hb dX10_readText_173 rfl (lv_at hl 0 rfl) ?_
    refine va_get (D := D) (ci := 10) (v := .int (bI (((tn1 (y 7) L (y 2) g).2.2).2.2.2.2.2.1))) (C := RX10) (T := TX10) (N := 19) hx hb hts i10 hown hK hP 0 rfl rfl 16 (by decide) w5 (fun _ h9 => h9) rfl dX10_readText_174 ?_
    refine lv_if_ne (tgt := 193) hx hb dX10_readText_177 (by decide) (fun c177 => ?_) (fun c177 => ?_)
    ·
      have c177 := bI_n0.mp c177
      have hE : (PARW T b (va_up y 2 ((tn1 (y 7) L (y 2) g).2.1)) ((tn1 (y 7) L (y 2) g).2.2) : va_W) = (PARW T b (va_up y 2 ((txR (y 7) L (y 2) g).1)) ((txR (y 7) L (y 2) g).2)) := by unfold txR; first | (rw [txE_w c177]; done) | (rw [txE_0 c184]; done) | (rw [txE_t c177 c184]; done)
      exact hret _ _ _ _ dX10_readText_193 (by rw [← hE]; exact hP) (by rw [← hE]; exact hD) hS
    ·
      have c177 := bI_0.mp c177
      refine lv_aload_n hx hb dX10_readText_180 rfl (lv_at hl 0 rfl) ?_
      refine va_get (D := D) (ci := 10) (v := .int (((tn1 (y 7) L (y 2) g).2.2).2.2.1)) (C := RX10) (T := TX10) (N := 19) hx hb hts i10 hown hK hP 0 rfl rfl 13 (by decide) w3 (fun _ h9 => h9) rfl dX10_readText_181 ?_
      refine lv_if_eq (tgt := 193) hx hb dX10_readText_184 (by decide) (fun c184 => ?_) (fun c184 => ?_)
      ·
        have hE : (PARW T b (va_up y 2 ((tn1 (y 7) L (y 2) g).2.1)) ((tn1 (y 7) L (y 2) g).2.2) : va_W) = (PARW T b (va_up y 2 ((txR (y 7) L (y 2) g).1)) ((txR (y 7) L (y 2) g).2)) := by unfold txR; first | (rw [txE_w c177]; done) | (rw [txE_0 c184]; done) | (rw [txE_t c177 c184]; done)
        exact hret _ _ _ _ dX10_readText_193 (by rw [← hE]; exact hP) (by rw [← hE]; exact hD) hS
      ·
        refine lv_aload_n hx hb dX10_readText_187 rfl (lv_at hl 0 rfl) ?_
        refine lv_iconst (v := 0) hx hb dX10_readText_188 (by decide) ?_
        refine wrVi (As := [.int (0)]) (rest := []) ⟨hx, hb, hml, hown, hts⟩ (c_X10_takes l D T b (va_up y 2 ((tn1 (y 7) L (y 2) g).2.1)) ((tn1 (y 7) L (y 2) g).2.2) false L hL hL2 hat1 _) (cwV 1 hts gX10_readText_X10_takes rfl rfl rfl (by decide +kernel) ⟨Nat.le_of_ble_eq_true rfl, Nat.le_of_ble_eq_true rfl⟩) (Foc.rfl _ _) hK hP hD hS hA 0 rfl rfl rfl hl.1 rfl (Nat.le_of_ble_eq_true rfl) ⟨Nat.zero_le _, Nat.zero_le _⟩ dX10_readText_189 (fun H locs hP hD hS => ?_)
        have hP : va_P D vwCl (PARW T b (va_up y 2 ((tn1 (y 7) L (y 2) g).2.1)) (takesP (y 7) L false ((tn1 (y 7) L (y 2) g).2.2))) H := hP
        have hD : va_D A (PARW T b (va_up y 2 ((tn1 (y 7) L (y 2) g).2.1)) (takesP (y 7) L false ((tn1 (y 7) L (y 2) g).2.2))) := hD
        refine lv_pop hx hb dX10_readText_192 rfl ?_
        have hE : (PARW T b (va_up y 2 ((tn1 (y 7) L (y 2) g).2.1)) (takesP (y 7) L false ((tn1 (y 7) L (y 2) g).2.2)) : va_W) = (PARW T b (va_up y 2 ((txR (y 7) L (y 2) g).1)) ((txR (y 7) L (y 2) g).2)) := by unfold txR; first | (rw [txE_w c177]; done) | (rw [txE_0 c184]; done) | (rw [txE_t c177 c184]; done)
        exact hret _ _ _ _ dX10_readText_193 (by rw [← hE]; exact hP) (by rw [← hE]; exact hD) hS
  have K149 : ((tk1 (y 7) L (y 2) g).2.2.1 ≤ L) → ((tk1 (y 7) L (y 2) g).2.1 6 = nI 0) → ∀ (H : Heap) (locs : List Loc) (ls : Array Slot), va_P D vwCl (PARW T b (va_up y 2 ((tk1 (y 7) L (y 2) g).2.1)) ((tk1 (y 7) L (y 2) g).2.2)) H → va_D A (PARW T b (va_up y 2 ((tk1 (y 7) L (y 2) g).2.1)) ((tk1 (y 7) L (y 2) g).2.2)) → va_S A s.heap H locs → lv_has ls 1 [(0, .ref (b 0))] → W p l e ({ frames := 6, cells := 0, slots := 0, locals := 128 } : Room) s m args below meth c H locs 0 0 Q (F0 m 149 ls []) := by
    intro hat1 hx6 H locs ls hP hD hS hl
    have L149 : ∀ (n9 : Nat) (N1 : Nat) (d3 : Nat → Int32) (g3 : PSt) (fu : Nat), fu < n9 → (whileN condN (compR (y 7) L) fu (N1, d3, g3) = tn1 (y 7) L (y 2) g) → (g3.1 ≤ L) → (d3 6 = nI N1) → (N1 ≤ 24) → (g3.2.2.2.2.2.1 = true ∨ 25 < N1 + fu) → ∀ (H : Heap) (locs : List Loc) (ls : Array Slot), va_P D vwCl (PARW T b (va_up y 2 d3) g3) H → va_D A (PARW T b (va_up y 2 d3) g3) → va_S A s.heap H locs → lv_has ls 1 [(0, .ref (b 0))] → W p l e ({ frames := 6, cells := 0, slots := 0, locals := 128 } : Room) s m args below meth c H locs 0 0 Q (F0 m 149 ls []) := by
      intro n9
      induction n9 with
      | zero => intro N1 d3 g3 fu hm9; exact absurd hm9 (Nat.not_lt_zero _)
      | succ n9 ih =>
        intro N1 d3 g3 fu hm9 hR hat1 hC1 hC3 hfu H locs ls hP hD hS hl
        refine lv_aload_n hx hb dX10_readText_149 rfl (lv_at hl 0 rfl) ?_
        refine va_get (D := D) (ci := 10) (v := .int (bI g3.2.2.2.2.2.1)) (C := RX10) (T := TX10) (N := 19) hx hb hts i10 hown hK hP 0 rfl rfl 16 (by decide) w5 (fun _ h9 => h9) rfl dX10_readText_150 ?_
        refine lv_if_ne (tgt := 173) hx hb dX10_readText_153 (by decide) (fun c153 => ?_) (fun c153 => ?_)
        ·
          have c153 := bI_n0.mp c153
          have hq := hR; rw [whileN_done (show condN (N1, d3, g3) = false from by simp [condN, c153])] at hq
          obtain ⟨rfl, rfl, rfl⟩ : N1 = (tn1 (y 7) L (y 2) g).1 ∧ d3 = (tn1 (y 7) L (y 2) g).2.1 ∧ g3 = (tn1 (y 7) L (y 2) g).2.2 := rs_eta (s := tn1 (y 7) L (y 2) g) hq
          have hP : va_P D vwCl (PARW T b (va_up y 2 ((tn1 (y 7) L (y 2) g).2.1)) ((tn1 (y 7) L (y 2) g).2.2)) H := hP
          have hD : va_D A (PARW T b (va_up y 2 ((tn1 (y 7) L (y 2) g).2.1)) ((tn1 (y 7) L (y 2) g).2.2)) := hD
          exact K173 (by exact hat1) _ _ _ hP hD hS (lv_sub hl [0] rfl)
        ·
          have c153 := bI_0.mp c153
          refine lv_aload_n hx hb dX10_readText_156 rfl (lv_at hl 0 rfl) ?_
          refine lv_ldc2 (v := 1009466360291) hx hb hown w7 dX10_readText_157 ?_
          refine rdV (As := [.long (1009466360291)]) (rest := []) ⟨hx, hb, hml, hown, hts⟩ (c_X10_isWord l D T b (va_up y 2 d3) g3 1009466360291 ) (cwV 1 hts gX10_readText_X10_isWord rfl rfl rfl (by decide +kernel) ⟨Nat.le_of_ble_eq_true rfl, Nat.le_of_ble_eq_true rfl⟩) hK hP 0 rfl rfl rfl hl.1 rfl (Nat.le_of_ble_eq_true rfl) ⟨Nat.zero_le _, Nat.zero_le _⟩ dX10_readText_160 ?_
          refine lv_if_eq (tgt := 173) hx hb dX10_readText_163 (by decide) (fun c163 => ?_) (fun c163 => ?_)
          ·
            have c163 := bI_0.mp c163
            have c163 : wordB g3 1009466360291 = false := c163
            have hq := hR; rw [whileN_done (show condN (N1, d3, g3) = false from by simp [condN, c163])] at hq
            obtain ⟨rfl, rfl, rfl⟩ : N1 = (tn1 (y 7) L (y 2) g).1 ∧ d3 = (tn1 (y 7) L (y 2) g).2.1 ∧ g3 = (tn1 (y 7) L (y 2) g).2.2 := rs_eta (s := tn1 (y 7) L (y 2) g) hq
            have hP : va_P D vwCl (PARW T b (va_up y 2 ((tn1 (y 7) L (y 2) g).2.1)) ((tn1 (y 7) L (y 2) g).2.2)) H := hP
            have hD : va_D A (PARW T b (va_up y 2 ((tn1 (y 7) L (y 2) g).2.1)) ((tn1 (y 7) L (y 2) g).2.2)) := hD
            exact K173 (by exact hat1) _ _ _ hP hD hS (lv_sub hl [0] rfl)
          ·
            have c163 := bI_n0.mp c163
            have c163 : wordB g3 1009466360291 = true := c163
            have hfu9 : 0 < fu ∧ ((compR (y 7) L (N1, d3, g3)).2.2.2.2.2.2.2.1 = true ∨ 25 < (compR (y 7) L (N1, d3, g3)).1 + (fu - 1)) := by
              rcases hfu with h9 | h9
              · rw [c153] at h9; cases h9
              · refine ⟨by omega, ?_⟩
                cases h8 : (compR (y 7) L (N1, d3, g3)).2.2.2.2.2.2.2.1 with
                | true => exact Or.inl rfl
                | false => refine Or.inr ?_; have := compR_ok h8; rw [this]; show 25 < N1 + 1 + (fu - 1); omega
            have hcd : condN (N1, d3, g3) = true := by simp [condN, c153, c163]
            refine lv_aload_n hx hb dX10_readText_166 rfl (lv_at hl 0 rfl) ?_
            refine wrVv (As := []) (rest := []) ⟨hx, hb, hml, hown, hts⟩ (c_X10_readComplaint l D T b (va_up y 2 d3) g3 N1 L hL hL2 hat1 hC1 hC3 _) (cwV 0 hts gX10_readText_X10_readComplaint rfl rfl rfl (by decide +kernel) ⟨Nat.le_of_ble_eq_true rfl, Nat.le_of_ble_eq_true rfl⟩) (Foc.rfl _ _) hK hP hD hS hA 0 rfl rfl rfl hl.1 rfl (Nat.le_of_ble_eq_true rfl) ⟨Nat.zero_le _, Nat.zero_le _⟩ dX10_readText_167 (fun H locs hP hD hS => ?_)
            have hP : va_P D vwCl (PARW T b (va_up y 2 ((compR (y 7) L (N1, d3, g3)).2.1)) ((compR (y 7) L (N1, d3, g3)).2.2)) H := hP
            have hD : va_D A (PARW T b (va_up y 2 ((compR (y 7) L (N1, d3, g3)).2.1)) ((compR (y 7) L (N1, d3, g3)).2.2)) := hD
            have hP : va_P D vwCl (PARW T b (va_up y 2 ((compR (y 7) L (N1, d3, g3)).2.1)) ((compR (y 7) L (N1, d3, g3)).2.2)) H := hP
            have hD : va_D A (PARW T b (va_up y 2 ((compR (y 7) L (N1, d3, g3)).2.1)) ((compR (y 7) L (N1, d3, g3)).2.2)) := hD
            refine lv_goto (tgt := 149) hx hb dX10_readText_170 (by decide) ?_
            exact ih ((compR (y 7) L (N1, d3, g3)).1) ((compR (y 7) L (N1, d3, g3)).2.1) ((compR (y 7) L (N1, d3, g3)).2.2) (fu - 1) (by (have := hfu9.1; omega)) (by rw [whileN_step hfu9.1 hcd] at hR; exact (whileN_eta _).trans hR) (by exact compR_le (s := (N1, d3, g3)) hat1) (by exact compR_n (s := (N1, d3, g3)) hC1) (by exact compR_24 (s := (N1, d3, g3)) hC3) (by exact hfu9.2) _ _ _ hP hD hS (lv_sub hl [0] rfl)
    exact L149 _ 0 ((tk1 (y 7) L (y 2) g).2.1) ((tk1 (y 7) L (y 2) g).2.2) 26 (Nat.lt_succ_self _) (by exact tn1_eq) (by exact hat1) (by exact hx6) (by omega) (by exact Or.inr (by omega)) _ _ _ hP hD hS (lv_sub hl [0] rfl)
  have K107 : ((tc2 (y 7) L (y 2) g).2.2.1 ≤ L) → ((tc2 (y 7) L (y 2) g).2.1 5 = nI 0) → ((tc2 (y 7) L (y 2) g).2.1 6 = nI 0) → ∀ (H : Heap) (locs : List Loc) (ls : Array Slot), va_P D vwCl (PARW T b (va_up y 2 ((tc2 (y 7) L (y 2) g).2.1)) ((tc2 (y 7) L (y 2) g).2.2)) H → va_D A (PARW T b (va_up y 2 ((tc2 (y 7) L (y 2) g).2.1)) ((tc2 (y 7) L (y 2) g).2.2)) → va_S A s.heap H locs → lv_has ls 1 [(0, .ref (b 0))] → W p l e ({ frames := 6, cells := 0, slots := 0, locals := 128 } : Room) s m args below meth c H locs 0 0 Q (F0 m 107 ls []) := by
    intro hat1 hx5 hx6 H locs ls hP hD hS hl
    refine lv_aload_n hx hb dX10_readText_107 rfl (lv_at hl 0 rfl) ?_
    have J108 : W p l e ({ frames := 6, cells := 0, slots := 0, locals := 128 } : Room) s m args below meth c H locs 0 0 Q (F0 m 121 ls [.int (bI (kindB (tc2 (y 7) L (y 2) g).2.2 3)), .ref (b 0)]) := by
      refine wrVi (As := [.int (bI (kindB (tc2 (y 7) L (y 2) g).2.2 3))]) (rest := []) ⟨hx, hb, hml, hown, hts⟩ (c_X10_takes l D T b (va_up y 2 ((tc2 (y 7) L (y 2) g).2.1)) ((tc2 (y 7) L (y 2) g).2.2) ((kindB (tc2 (y 7) L (y 2) g).2.2 3)) L hL hL2 hat1 _) (cwV 1 hts gX10_readText_X10_takes rfl rfl rfl (by decide +kernel) ⟨Nat.le_of_ble_eq_true rfl, Nat.le_of_ble_eq_true rfl⟩) (Foc.rfl _ _) hK hP hD hS hA 0 rfl rfl rfl hl.1 rfl (Nat.le_of_ble_eq_true rfl) ⟨Nat.zero_le _, Nat.zero_le _⟩ dX10_readText_121 (fun H locs hP hD hS => ?_)
      have hP : va_P D vwCl (PARW T b (va_up y 2 ((tc2 (y 7) L (y 2) g).2.1)) (takesP (y 7) L ((kindB (tc2 (y 7) L (y 2) g).2.2 3)) ((tc2 (y 7) L (y 2) g).2.2))) H := hP
      have hD : va_D A (PARW T b (va_up y 2 ((tc2 (y 7) L (y 2) g).2.1)) (takesP (y 7) L ((kindB (tc2 (y 7) L (y 2) g).2.2 3)) ((tc2 (y 7) L (y 2) g).2.2))) := hD
      have hP : va_P D vwCl (PARW T b (va_up y 2 ((tc2 (y 7) L (y 2) g).2.1)) (tc3 (y 7) L (y 2) g)) H := hP
      have hD : va_D A (PARW T b (va_up y 2 ((tc2 (y 7) L (y 2) g).2.1)) (tc3 (y 7) L (y 2) g)) := hD
      refine lv_pop hx hb dX10_readText_124 rfl ?_
      have L125 : ∀ (n9 : Nat) (K1 : Nat) (d2 : Nat → Int32) (g2 : PSt) (fu : Nat), fu < n9 → (whileN condK (clerkR (y 7) L) fu (K1, d2, g2) = tk1 (y 7) L (y 2) g) → (g2.1 ≤ L) → (d2 5 = nI K1) → (K1 ≤ 5) → (g2.2.2.2.2.2.1 = true ∨ 6 < K1 + fu) → (d2 6 = nI 0) → ∀ (H : Heap) (locs : List Loc) (ls : Array Slot), va_P D vwCl (PARW T b (va_up y 2 d2) g2) H → va_D A (PARW T b (va_up y 2 d2) g2) → va_S A s.heap H locs → lv_has ls 1 [(0, .ref (b 0))] → W p l e ({ frames := 6, cells := 0, slots := 0, locals := 128 } : Room) s m args below meth c H locs 0 0 Q (F0 m 125 ls []) := by
        intro n9
        induction n9 with
        | zero => intro K1 d2 g2 fu hm9; exact absurd hm9 (Nat.not_lt_zero _)
        | succ n9 ih =>
          intro K1 d2 g2 fu hm9 hR hat1 hC1 hC3 hfu hx6 H locs ls hP hD hS hl
          refine lv_aload_n hx hb dX10_readText_125 rfl (lv_at hl 0 rfl) ?_
          refine va_get (D := D) (ci := 10) (v := .int (bI g2.2.2.2.2.2.1)) (C := RX10) (T := TX10) (N := 19) hx hb hts i10 hown hK hP 0 rfl rfl 16 (by decide) w5 (fun _ h9 => h9) rfl dX10_readText_126 ?_
          refine lv_if_ne (tgt := 149) hx hb dX10_readText_129 (by decide) (fun c129 => ?_) (fun c129 => ?_)
          ·
            have c129 := bI_n0.mp c129
            have hq := hR; rw [whileN_done (show condK (K1, d2, g2) = false from by simp [condK, c129])] at hq
            obtain ⟨rfl, rfl, rfl⟩ : K1 = (tk1 (y 7) L (y 2) g).1 ∧ d2 = (tk1 (y 7) L (y 2) g).2.1 ∧ g2 = (tk1 (y 7) L (y 2) g).2.2 := rs_eta (s := tk1 (y 7) L (y 2) g) hq
            have hP : va_P D vwCl (PARW T b (va_up y 2 ((tk1 (y 7) L (y 2) g).2.1)) ((tk1 (y 7) L (y 2) g).2.2)) H := hP
            have hD : va_D A (PARW T b (va_up y 2 ((tk1 (y 7) L (y 2) g).2.1)) ((tk1 (y 7) L (y 2) g).2.2)) := hD
            exact K149 (by exact hat1) (by exact hx6) _ _ _ hP hD hS (lv_sub hl [0] rfl)
          ·
            have c129 := bI_0.mp c129
            refine lv_aload_n hx hb dX10_readText_132 rfl (lv_at hl 0 rfl) ?_
            refine lv_ldc2 (v := 1834661) hx hb hown w6 dX10_readText_133 ?_
            refine rdV (As := [.long (1834661)]) (rest := []) ⟨hx, hb, hml, hown, hts⟩ (c_X10_isWord l D T b (va_up y 2 d2) g2 1834661 ) (cwV 1 hts gX10_readText_X10_isWord rfl rfl rfl (by decide +kernel) ⟨Nat.le_of_ble_eq_true rfl, Nat.le_of_ble_eq_true rfl⟩) hK hP 0 rfl rfl rfl hl.1 rfl (Nat.le_of_ble_eq_true rfl) ⟨Nat.zero_le _, Nat.zero_le _⟩ dX10_readText_136 ?_
            refine lv_if_eq (tgt := 149) hx hb dX10_readText_139 (by decide) (fun c139 => ?_) (fun c139 => ?_)
            ·
              have c139 := bI_0.mp c139
              have c139 : wordB g2 1834661 = false := c139
              have hq := hR; rw [whileN_done (show condK (K1, d2, g2) = false from by simp [condK, c139])] at hq
              obtain ⟨rfl, rfl, rfl⟩ : K1 = (tk1 (y 7) L (y 2) g).1 ∧ d2 = (tk1 (y 7) L (y 2) g).2.1 ∧ g2 = (tk1 (y 7) L (y 2) g).2.2 := rs_eta (s := tk1 (y 7) L (y 2) g) hq
              have hP : va_P D vwCl (PARW T b (va_up y 2 ((tk1 (y 7) L (y 2) g).2.1)) ((tk1 (y 7) L (y 2) g).2.2)) H := hP
              have hD : va_D A (PARW T b (va_up y 2 ((tk1 (y 7) L (y 2) g).2.1)) ((tk1 (y 7) L (y 2) g).2.2)) := hD
              exact K149 (by exact hat1) (by exact hx6) _ _ _ hP hD hS (lv_sub hl [0] rfl)
            ·
              have c139 := bI_n0.mp c139
              have c139 : wordB g2 1834661 = true := c139
              have hfu9 : 0 < fu ∧ ((clerkR (y 7) L (K1, d2, g2)).2.2.2.2.2.2.2.1 = true ∨ 6 < (clerkR (y 7) L (K1, d2, g2)).1 + (fu - 1)) := by
                rcases hfu with h9 | h9
                · rw [c129] at h9; cases h9
                · refine ⟨by omega, ?_⟩
                  cases h8 : (clerkR (y 7) L (K1, d2, g2)).2.2.2.2.2.2.2.1 with
                  | true => exact Or.inl rfl
                  | false => refine Or.inr ?_; have := clerkR_ok h8; rw [this]; show 6 < K1 + 1 + (fu - 1); omega
              have hcd : condK (K1, d2, g2) = true := by simp [condK, c129, c139]
              refine lv_aload_n hx hb dX10_readText_142 rfl (lv_at hl 0 rfl) ?_
              refine wrVv (As := []) (rest := []) ⟨hx, hb, hml, hown, hts⟩ (c_X10_readClerk l D T b (va_up y 2 d2) g2 K1 L hL hL2 hat1 hC1 hC3 _) (cwV 0 hts gX10_readText_X10_readClerk rfl rfl rfl (by decide +kernel) ⟨Nat.le_of_ble_eq_true rfl, Nat.le_of_ble_eq_true rfl⟩) (Foc.rfl _ _) hK hP hD hS hA 0 rfl rfl rfl hl.1 rfl (Nat.le_of_ble_eq_true rfl) ⟨Nat.zero_le _, Nat.zero_le _⟩ dX10_readText_143 (fun H locs hP hD hS => ?_)
              have hP : va_P D vwCl (PARW T b (va_up y 2 ((clerkR (y 7) L (K1, d2, g2)).2.1)) ((clerkR (y 7) L (K1, d2, g2)).2.2)) H := hP
              have hD : va_D A (PARW T b (va_up y 2 ((clerkR (y 7) L (K1, d2, g2)).2.1)) ((clerkR (y 7) L (K1, d2, g2)).2.2)) := hD
              have hP : va_P D vwCl (PARW T b (va_up y 2 ((clerkR (y 7) L (K1, d2, g2)).2.1)) ((clerkR (y 7) L (K1, d2, g2)).2.2)) H := hP
              have hD : va_D A (PARW T b (va_up y 2 ((clerkR (y 7) L (K1, d2, g2)).2.1)) ((clerkR (y 7) L (K1, d2, g2)).2.2)) := hD
              refine lv_goto (tgt := 125) hx hb dX10_readText_146 (by decide) ?_
              exact ih ((clerkR (y 7) L (K1, d2, g2)).1) ((clerkR (y 7) L (K1, d2, g2)).2.1) ((clerkR (y 7) L (K1, d2, g2)).2.2) (fu - 1) (by (have := hfu9.1; omega)) (by rw [whileN_step hfu9.1 hcd] at hR; exact (whileN_eta _).trans hR) (by exact clerkR_le (s := (K1, d2, g2)) hat1) (by exact clerkR_n (s := (K1, d2, g2)) hC1) (by exact clerkR_5 (s := (K1, d2, g2)) hC3) (by exact hfu9.2) (by exact (clerkR_k (s := (K1, d2, g2))).trans hx6) _ _ _ hP hD hS (lv_sub hl [0] rfl)
      exact L125 _ 0 ((tc2 (y 7) L (y 2) g).2.1) (tc3 (y 7) L (y 2) g) 7 (Nat.lt_succ_self _) (by exact tk1_eq) (by exact tc3_le hat1) (by exact hx5) (by omega) (by exact Or.inr (by omega)) (by exact hx6) _ _ _ hP hD hS (lv_sub hl [0] rfl)
    refine lv_aload_n hx hb dX10_readText_108 rfl (lv_at hl 0 rfl) ?_
    refine va_get (D := D) (ci := 10) (v := .int (((tc2 (y 7) L (y 2) g).2.2).2.2.1)) (C := RX10) (T := TX10) (N := 19) hx hb hts i10 hown hK hP 0 rfl rfl 13 (by decide) w3 (fun _ h9 => h9) rfl dX10_readText_109 ?_
    refine lv_iconst (v := 3) hx hb dX10_readText_112 (by decide) ?_
    refine lv_icmp_ne (tgt := 120) hx hb dX10_readText_113 (by decide) (fun c113 => ?_) (fun c113 => ?_)
    ·
      refine lv_iconst (v := 0) hx hb dX10_readText_120 (by decide) ?_
      refine endI (r := bI (kindB (tc2 (y 7) L (y 2) g).2.2 3)) (by simp [bI, kindB, c113]) ?_
      exact J108
    ·
      refine lv_iconst (v := 1) hx hb dX10_readText_116 (by decide) ?_
      refine lv_goto (tgt := 121) hx hb dX10_readText_117 (by decide) ?_
      refine endI (r := bI (kindB (tc2 (y 7) L (y 2) g).2.2 3)) (by simp [bI, kindB, c113]) ?_
      exact J108
  have K69 : ∀ (H : Heap) (locs : List Loc) (ls : Array Slot), va_P D vwCl (PARW T b (va_up y 2 (txD (y 7) L (y 2) g)) (tx5 (y 7) L g)) H → va_D A (PARW T b (va_up y 2 (txD (y 7) L (y 2) g)) (tx5 (y 7) L g)) → va_S A s.heap H locs → lv_has ls 1 [(0, .ref (b 0))] → W p l e ({ frames := 6, cells := 0, slots := 0, locals := 128 } : Room) s m args below meth c H locs 0 0 Q (F0 m 69 ls []) := by
    intro H locs ls hP hD hS hl
    generalize hd3 : txD (y 7) L (y 2) g = d3 at hP hD
    have hd34 : d3 4 = nI 0 := by rw [← hd3]; exact hD4
    have hP : va_P D vwCl (PARW T b (va_up y 2 d3) (tx5 (y 7) L g)) H := hP
    have hD : va_D A (PARW T b (va_up y 2 d3) (tx5 (y 7) L g)) := hD
    refine lv_aload_n hx hb dX10_readText_69 rfl (lv_at hl 0 rfl) ?_
    refine lv_aload_n hx hb dX10_readText_70 rfl (lv_at hl 0 rfl) ?_
    refine lv_ldc2 (v := 49734694) hx hb hown w4 dX10_readText_71 ?_
    refine rdV (As := [.long (49734694)]) (rest := [.ref (b 0)]) ⟨hx, hb, hml, hown, hts⟩ (c_X10_isWord l D T b (va_up y 2 d3) (tx5 (y 7) L g) 49734694 ) (cwV 1 hts gX10_readText_X10_isWord rfl rfl rfl (by decide +kernel) ⟨Nat.le_of_ble_eq_true rfl, Nat.le_of_ble_eq_true rfl⟩) hK hP 0 rfl rfl rfl hl.1 rfl (Nat.le_of_ble_eq_true rfl) ⟨Nat.zero_le _, Nat.zero_le _⟩ dX10_readText_74 ?_
    refine wrVi (As := [.int (bI (wordB (tx5 (y 7) L g) 49734694))]) (rest := []) ⟨hx, hb, hml, hown, hts⟩ (c_X10_takes l D T b (va_up y 2 d3) (tx5 (y 7) L g) ((wordB (tx5 (y 7) L g) 49734694)) L hL hL2 h5 _) (cwV 1 hts gX10_readText_X10_takes rfl rfl rfl (by decide +kernel) ⟨Nat.le_of_ble_eq_true rfl, Nat.le_of_ble_eq_true rfl⟩) (Foc.rfl _ _) hK hP hD hS hA 0 rfl rfl rfl hl.1 rfl (Nat.le_of_ble_eq_true rfl) ⟨Nat.zero_le _, Nat.zero_le _⟩ dX10_readText_77 (fun H locs hP hD hS => ?_)
    have hP : va_P D vwCl (PARW T b (va_up y 2 d3) (takesP (y 7) L ((wordB (tx5 (y 7) L g) 49734694)) (tx5 (y 7) L g))) H := hP
    have hD : va_D A (PARW T b (va_up y 2 d3) (takesP (y 7) L ((wordB (tx5 (y 7) L g) 49734694)) (tx5 (y 7) L g))) := hD
    have hP : va_P D vwCl (PARW T b (va_up y 2 d3) (tx6 (y 7) L g)) H := hP
    have hD : va_D A (PARW T b (va_up y 2 d3) (tx6 (y 7) L g)) := hD
    refine lv_pop hx hb dX10_readText_80 rfl ?_
    refine lv_aload_n hx hb dX10_readText_81 rfl (lv_at hl 0 rfl) ?_
    refine wrVv (As := []) (rest := []) ⟨hx, hb, hml, hown, hts⟩ (c_X10_readCloud l D T b (va_up y 2 d3) (tx6 (y 7) L g) C0 L hL hL2 h6 (by rw [up22, hC0]; exact hd34) (by omega) _) (cwV 0 hts gX10_readText_X10_readCloud rfl rfl rfl (by decide +kernel) ⟨Nat.le_of_ble_eq_true rfl, Nat.le_of_ble_eq_true rfl⟩) (Foc.rfl _ _) hK hP hD hS hA 0 rfl rfl rfl hl.1 rfl (Nat.le_of_ble_eq_true rfl) ⟨Nat.zero_le _, Nat.zero_le _⟩ dX10_readText_82 (fun H locs hP hD hS => ?_)
    simp only [PARW_uu, up27, up22] at hP hD
    have hP : va_P D vwCl (PARW T b (va_up y 2 ((cloudR (y 7) L (C0, d3, (tx6 (y 7) L g))).2.1)) ((cloudR (y 7) L (C0, d3, (tx6 (y 7) L g))).2.2)) H := hP
    have hD : va_D A (PARW T b (va_up y 2 ((cloudR (y 7) L (C0, d3, (tx6 (y 7) L g))).2.1)) ((cloudR (y 7) L (C0, d3, (tx6 (y 7) L g))).2.2)) := hD
    rw [hC0, ← hd3, tc1_is] at hP hD
    have hP : va_P D vwCl (PARW T b (va_up y 2 ((tc1 (y 7) L (y 2) g).2.1)) ((tc1 (y 7) L (y 2) g).2.2)) H := hP
    have hD : va_D A (PARW T b (va_up y 2 ((tc1 (y 7) L (y 2) g).2.1)) ((tc1 (y 7) L (y 2) g).2.2)) := hD
    have L85 : ∀ (n9 : Nat) (C1 : Nat) (d1 : Nat → Int32) (g1 : PSt) (fu : Nat), fu < n9 → (whileN condC (cloudR (y 7) L) fu (C1, d1, g1) = tc2 (y 7) L (y 2) g) → (g1.1 ≤ L) → (d1 4 = nI C1) → (C1 ≤ 10) → (g1.2.2.2.2.2.1 = true ∨ 11 < C1 + fu) → (d1 5 = nI 0) → (d1 6 = nI 0) → ∀ (H : Heap) (locs : List Loc) (ls : Array Slot), va_P D vwCl (PARW T b (va_up y 2 d1) g1) H → va_D A (PARW T b (va_up y 2 d1) g1) → va_S A s.heap H locs → lv_has ls 1 [(0, .ref (b 0))] → W p l e ({ frames := 6, cells := 0, slots := 0, locals := 128 } : Room) s m args below meth c H locs 0 0 Q (F0 m 85 ls []) := by
      intro n9
      induction n9 with
      | zero => intro C1 d1 g1 fu hm9; exact absurd hm9 (Nat.not_lt_zero _)
      | succ n9 ih =>
        intro C1 d1 g1 fu hm9 hR hat1 hC1 hC3 hfu hx5 hx6 H locs ls hP hD hS hl
        refine lv_aload_n hx hb dX10_readText_85 rfl (lv_at hl 0 rfl) ?_
        refine va_get (D := D) (ci := 10) (v := .int (bI g1.2.2.2.2.2.1)) (C := RX10) (T := TX10) (N := 19) hx hb hts i10 hown hK hP 0 rfl rfl 16 (by decide) w5 (fun _ h9 => h9) rfl dX10_readText_86 ?_
        refine lv_if_ne (tgt := 107) hx hb dX10_readText_89 (by decide) (fun c89 => ?_) (fun c89 => ?_)
        ·
          have c89 := bI_n0.mp c89
          have hq := hR; rw [whileN_done (show condC (C1, d1, g1) = false from by simp [condC, c89])] at hq
          obtain ⟨rfl, rfl, rfl⟩ : C1 = (tc2 (y 7) L (y 2) g).1 ∧ d1 = (tc2 (y 7) L (y 2) g).2.1 ∧ g1 = (tc2 (y 7) L (y 2) g).2.2 := rs_eta (s := tc2 (y 7) L (y 2) g) hq
          have hP : va_P D vwCl (PARW T b (va_up y 2 ((tc2 (y 7) L (y 2) g).2.1)) ((tc2 (y 7) L (y 2) g).2.2)) H := hP
          have hD : va_D A (PARW T b (va_up y 2 ((tc2 (y 7) L (y 2) g).2.1)) ((tc2 (y 7) L (y 2) g).2.2)) := hD
          exact K107 (by exact hat1) (by exact hx5) (by exact hx6) _ _ _ hP hD hS (lv_sub hl [0] rfl)
        ·
          have c89 := bI_0.mp c89
          refine lv_aload_n hx hb dX10_readText_92 rfl (lv_at hl 0 rfl) ?_
          refine va_get (D := D) (ci := 10) (v := .int (g1.2.2.1)) (C := RX10) (T := TX10) (N := 19) hx hb hts i10 hown hK hP 0 rfl rfl 13 (by decide) w3 (fun _ h9 => h9) rfl dX10_readText_93 ?_
          refine lv_iconst (v := 2) hx hb dX10_readText_96 (by decide) ?_
          refine lv_icmp_ne (tgt := 107) hx hb dX10_readText_97 (by decide) (fun c97 => ?_) (fun c97 => ?_)
          ·
            have hq := hR; rw [whileN_done (show condC (C1, d1, g1) = false from by simp [condC, c97])] at hq
            obtain ⟨rfl, rfl, rfl⟩ : C1 = (tc2 (y 7) L (y 2) g).1 ∧ d1 = (tc2 (y 7) L (y 2) g).2.1 ∧ g1 = (tc2 (y 7) L (y 2) g).2.2 := rs_eta (s := tc2 (y 7) L (y 2) g) hq
            have hP : va_P D vwCl (PARW T b (va_up y 2 ((tc2 (y 7) L (y 2) g).2.1)) ((tc2 (y 7) L (y 2) g).2.2)) H := hP
            have hD : va_D A (PARW T b (va_up y 2 ((tc2 (y 7) L (y 2) g).2.1)) ((tc2 (y 7) L (y 2) g).2.2)) := hD
            exact K107 (by exact hat1) (by exact hx5) (by exact hx6) _ _ _ hP hD hS (lv_sub hl [0] rfl)
          ·
            have hfu9 : 0 < fu ∧ ((cloudR (y 7) L (C1, d1, g1)).2.2.2.2.2.2.2.1 = true ∨ 11 < (cloudR (y 7) L (C1, d1, g1)).1 + (fu - 1)) := by
              rcases hfu with h9 | h9
              · rw [c89] at h9; cases h9
              · refine ⟨by omega, ?_⟩
                cases h8 : (cloudR (y 7) L (C1, d1, g1)).2.2.2.2.2.2.2.1 with
                | true => exact Or.inl rfl
                | false => refine Or.inr ?_; have := cloudR_ok h8; rw [this]; show 11 < C1 + 1 + (fu - 1); omega
            have hcd : condC (C1, d1, g1) = true := by simp [condC, c89, c97]
            refine lv_aload_n hx hb dX10_readText_100 rfl (lv_at hl 0 rfl) ?_
            refine wrVv (As := []) (rest := []) ⟨hx, hb, hml, hown, hts⟩ (c_X10_readCloud l D T b (va_up y 2 d1) g1 C1 L hL hL2 hat1 hC1 hC3 _) (cwV 0 hts gX10_readText_X10_readCloud rfl rfl rfl (by decide +kernel) ⟨Nat.le_of_ble_eq_true rfl, Nat.le_of_ble_eq_true rfl⟩) (Foc.rfl _ _) hK hP hD hS hA 0 rfl rfl rfl hl.1 rfl (Nat.le_of_ble_eq_true rfl) ⟨Nat.zero_le _, Nat.zero_le _⟩ dX10_readText_101 (fun H locs hP hD hS => ?_)
            have hP : va_P D vwCl (PARW T b (va_up y 2 ((cloudR (y 7) L (C1, d1, g1)).2.1)) ((cloudR (y 7) L (C1, d1, g1)).2.2)) H := hP
            have hD : va_D A (PARW T b (va_up y 2 ((cloudR (y 7) L (C1, d1, g1)).2.1)) ((cloudR (y 7) L (C1, d1, g1)).2.2)) := hD
            have hP : va_P D vwCl (PARW T b (va_up y 2 ((cloudR (y 7) L (C1, d1, g1)).2.1)) ((cloudR (y 7) L (C1, d1, g1)).2.2)) H := hP
            have hD : va_D A (PARW T b (va_up y 2 ((cloudR (y 7) L (C1, d1, g1)).2.1)) ((cloudR (y 7) L (C1, d1, g1)).2.2)) := hD
            refine lv_goto (tgt := 85) hx hb dX10_readText_104 (by decide) ?_
            exact ih ((cloudR (y 7) L (C1, d1, g1)).1) ((cloudR (y 7) L (C1, d1, g1)).2.1) ((cloudR (y 7) L (C1, d1, g1)).2.2) (fu - 1) (by (have := hfu9.1; omega)) (by rw [whileN_step hfu9.1 hcd] at hR; exact (whileN_eta _).trans hR) (by exact cloudR_le (s := (C1, d1, g1)) hat1) (by exact cloudR_n (s := (C1, d1, g1)) hC1) (by exact cloudR_10 (s := (C1, d1, g1)) hC3) (by exact hfu9.2) (by exact (cloudR_k (s := (C1, d1, g1)) (by decide)).trans hx5) (by exact (cloudR_k (s := (C1, d1, g1)) (by decide)).trans hx6) _ _ _ hP hD hS (lv_sub hl [0] rfl)
    exact L85 _ ((tc1 (y 7) L (y 2) g).1) ((tc1 (y 7) L (y 2) g).2.1) ((tc1 (y 7) L (y 2) g).2.2) 13 (Nat.lt_succ_self _) (by exact tc2_eta) (by exact tc1_le hat) (by exact tc1_n hd4) (by exact tc1_10) (by exact Or.inr (by omega)) (by exact tc1_k (by decide) hd5) (by exact tc1_k (by decide) hd6) _ _ _ hP hD hS (lv_sub hl [0] rfl)
  refine lv_aload_n hx hb dX10_readText_0 rfl (lv_at hl 0 rfl) ?_
  refine lv_aload_n hx hb dX10_readText_1 rfl (lv_at hl 0 rfl) ?_
  refine lv_ldc2 (v := 267233) hx hb hown w1 dX10_readText_2 ?_
  refine rdV (As := [.long (267233)]) (rest := [.ref (b 0)]) ⟨hx, hb, hml, hown, hts⟩ (c_X10_isWord l D T b y g 267233 ) (cwV 1 hts gX10_readText_X10_isWord rfl rfl rfl (by decide +kernel) ⟨Nat.le_of_ble_eq_true rfl, Nat.le_of_ble_eq_true rfl⟩) hK hP 0 rfl rfl rfl hl.1 rfl (Nat.le_of_ble_eq_true rfl) ⟨Nat.zero_le _, Nat.zero_le _⟩ dX10_readText_5 ?_
  refine wrVi (As := [.int (bI (wordB g 267233))]) (rest := []) ⟨hx, hb, hml, hown, hts⟩ (c_X10_takes l D T b y g ((wordB g 267233)) L hL hL2 hat _) (cwV 1 hts gX10_readText_X10_takes rfl rfl rfl (by decide +kernel) ⟨Nat.le_of_ble_eq_true rfl, Nat.le_of_ble_eq_true rfl⟩) (Foc.rfl _ _) hK hP hD hS hA 0 rfl rfl rfl hl.1 rfl (Nat.le_of_ble_eq_true rfl) ⟨Nat.zero_le _, Nat.zero_le _⟩ dX10_readText_8 (fun H locs hP hD hS => ?_)
  have hP : va_P D vwCl (PARW T b y (takesP (y 7) L ((wordB g 267233)) g)) H := hP
  have hD : va_D A (PARW T b y (takesP (y 7) L ((wordB g 267233)) g)) := hD
  have hP : va_P D vwCl (PARW T b y (tx1 (y 7) L g)) H := hP
  have hD : va_D A (PARW T b y (tx1 (y 7) L g)) := hD
  refine lv_pop hx hb dX10_readText_11 rfl ?_
  refine lv_aload_n hx hb dX10_readText_12 rfl (lv_at hl 0 rfl) ?_
  refine va_get (D := D) (ci := 10) (v := .ref (b 2)) (C := RX10) (T := TX10) (N := 19) hx hb hts i10 hown hK hP 0 rfl rfl 1 (by decide) w2 (fun _ h9 => h9) rfl dX10_readText_13 ?_
  refine lv_iconst (v := 1) hx hb dX10_readText_16 (by decide) ?_
  refine lv_aload_n hx hb dX10_readText_17 rfl (lv_at hl 0 rfl) ?_
  refine lv_iconst (v := 1) hx hb dX10_readText_18 (by decide) ?_
  refine lv_bipush (v := 14) hx hb dX10_readText_19 (by decide) ?_
  refine wrVi (As := [.int (1), .int (14)]) (rest := [.int (1), .ref (b 2)]) ⟨hx, hb, hml, hown, hts⟩ (c_X10_takesNumber l D T b y (tx1 (y 7) L g) 1 14 L hL hL2 h1 _) (cwV 2 hts gX10_readText_X10_takesNumber rfl rfl rfl (by decide +kernel) ⟨Nat.le_of_ble_eq_true rfl, Nat.le_of_ble_eq_true rfl⟩) (Foc.rfl _ _) hK hP hD hS hA 0 rfl rfl rfl hl.1 rfl (Nat.le_of_ble_eq_true rfl) ⟨Nat.zero_le _, Nat.zero_le _⟩ dX10_readText_21 (fun H locs hP hD hS => ?_)
  have hP : va_P D vwCl (PARW T b y (numS (y 7) L 1 14 (tx1 (y 7) L g))) H := hP
  have hD : va_D A (PARW T b y (numS (y 7) L 1 14 (tx1 (y 7) L g))) := hD
  have hP : va_P D vwCl (PARW T b y (tx2 (y 7) L g)) H := hP
  have hD : va_D A (PARW T b y (tx2 (y 7) L g)) := hD
  refine astI hx hb hK hP hD hS 2 0 rfl rfl (1) rfl (by omega) (by decide) dX10_readText_24 (fun H locs hP hD hS => ?_)
  rw [PARW_s0] at hP hD
  have hP : va_P D vwCl (PARW T b (va_up y 2 (va_up (y 2) 1 (numP 1 14 (tx1 (y 7) L g)))) (tx2 (y 7) L g)) H := hP
  have hD : va_D A (PARW T b (va_up y 2 (va_up (y 2) 1 (numP 1 14 (tx1 (y 7) L g)))) (tx2 (y 7) L g)) := hD
  refine lv_aload_n hx hb dX10_readText_25 rfl (lv_at hl 0 rfl) ?_
  refine va_get (D := D) (ci := 10) (v := .ref (b 2)) (C := RX10) (T := TX10) (N := 19) hx hb hts i10 hown hK hP 0 rfl rfl 1 (by decide) w2 (fun _ h9 => h9) rfl dX10_readText_26 ?_
  refine lv_iconst (v := 2) hx hb dX10_readText_29 (by decide) ?_
  refine lv_aload_n hx hb dX10_readText_30 rfl (lv_at hl 0 rfl) ?_
  refine lv_iconst (v := 0) hx hb dX10_readText_31 (by decide) ?_
  refine lv_bipush (v := 13) hx hb dX10_readText_32 (by decide) ?_
  refine wrVi (As := [.int (0), .int (13)]) (rest := [.int (2), .ref (b 2)]) ⟨hx, hb, hml, hown, hts⟩ (c_X10_takesNumber l D T b (va_up y 2 (va_up (y 2) 1 (numP 1 14 (tx1 (y 7) L g)))) (tx2 (y 7) L g) 0 13 L hL hL2 h2 _) (cwV 2 hts gX10_readText_X10_takesNumber rfl rfl rfl (by decide +kernel) ⟨Nat.le_of_ble_eq_true rfl, Nat.le_of_ble_eq_true rfl⟩) (Foc.rfl _ _) hK hP hD hS hA 0 rfl rfl rfl hl.1 rfl (Nat.le_of_ble_eq_true rfl) ⟨Nat.zero_le _, Nat.zero_le _⟩ dX10_readText_34 (fun H locs hP hD hS => ?_)
  have hP : va_P D vwCl (PARW T b (va_up y 2 (va_up (y 2) 1 (numP 1 14 (tx1 (y 7) L g)))) (numS (y 7) L 0 13 (tx2 (y 7) L g))) H := hP
  have hD : va_D A (PARW T b (va_up y 2 (va_up (y 2) 1 (numP 1 14 (tx1 (y 7) L g)))) (numS (y 7) L 0 13 (tx2 (y 7) L g))) := hD
  have hP : va_P D vwCl (PARW T b (va_up y 2 (va_up (y 2) 1 (numP 1 14 (tx1 (y 7) L g)))) (tx3 (y 7) L g)) H := hP
  have hD : va_D A (PARW T b (va_up y 2 (va_up (y 2) 1 (numP 1 14 (tx1 (y 7) L g)))) (tx3 (y 7) L g)) := hD
  refine astI hx hb hK hP hD hS 2 0 rfl rfl (2) rfl (by omega) (by decide) dX10_readText_37 (fun H locs hP hD hS => ?_)
  rw [PARW_st] at hP hD
  have hP : va_P D vwCl (PARW T b (va_up y 2 (va_up (va_up (y 2) 1 (numP 1 14 (tx1 (y 7) L g))) 2 (numP 0 13 (tx2 (y 7) L g)))) (tx3 (y 7) L g)) H := hP
  have hD : va_D A (PARW T b (va_up y 2 (va_up (va_up (y 2) 1 (numP 1 14 (tx1 (y 7) L g))) 2 (numP 0 13 (tx2 (y 7) L g)))) (tx3 (y 7) L g)) := hD
  refine lv_aload_n hx hb dX10_readText_38 rfl (lv_at hl 0 rfl) ?_
  refine va_get (D := D) (ci := 10) (v := .ref (b 2)) (C := RX10) (T := TX10) (N := 19) hx hb hts i10 hown hK hP 0 rfl rfl 1 (by decide) w2 (fun _ h9 => h9) rfl dX10_readText_39 ?_
  refine lv_iconst (v := 3) hx hb dX10_readText_42 (by decide) ?_
  refine lv_aload_n hx hb dX10_readText_43 rfl (lv_at hl 0 rfl) ?_
  refine lv_iconst (v := 0) hx hb dX10_readText_44 (by decide) ?_
  refine lv_bipush (v := 7) hx hb dX10_readText_45 (by decide) ?_
  refine wrVi (As := [.int (0), .int (7)]) (rest := [.int (3), .ref (b 2)]) ⟨hx, hb, hml, hown, hts⟩ (c_X10_takesNumber l D T b (va_up y 2 (va_up (va_up (y 2) 1 (numP 1 14 (tx1 (y 7) L g))) 2 (numP 0 13 (tx2 (y 7) L g)))) (tx3 (y 7) L g) 0 7 L hL hL2 h3 _) (cwV 2 hts gX10_readText_X10_takesNumber rfl rfl rfl (by decide +kernel) ⟨Nat.le_of_ble_eq_true rfl, Nat.le_of_ble_eq_true rfl⟩) (Foc.rfl _ _) hK hP hD hS hA 0 rfl rfl rfl hl.1 rfl (Nat.le_of_ble_eq_true rfl) ⟨Nat.zero_le _, Nat.zero_le _⟩ dX10_readText_47 (fun H locs hP hD hS => ?_)
  have hP : va_P D vwCl (PARW T b (va_up y 2 (va_up (va_up (y 2) 1 (numP 1 14 (tx1 (y 7) L g))) 2 (numP 0 13 (tx2 (y 7) L g)))) (numS (y 7) L 0 7 (tx3 (y 7) L g))) H := hP
  have hD : va_D A (PARW T b (va_up y 2 (va_up (va_up (y 2) 1 (numP 1 14 (tx1 (y 7) L g))) 2 (numP 0 13 (tx2 (y 7) L g)))) (numS (y 7) L 0 7 (tx3 (y 7) L g))) := hD
  generalize hd2 : va_up (va_up (y 2) 1 (numP 1 14 (tx1 (y 7) L g))) 2 (numP 0 13 (tx2 (y 7) L g)) = d2 at hP hD
  have hP : va_P D vwCl (PARW T b (va_up y 2 d2) (tx4 (y 7) L g)) H := hP
  have hD : va_D A (PARW T b (va_up y 2 d2) (tx4 (y 7) L g)) := hD
  refine astI hx hb hK hP hD hS 2 0 rfl rfl (3) rfl (by omega) (by decide) dX10_readText_50 (fun H locs hP hD hS => ?_)
  rw [PARW_st] at hP hD
  have hP : va_P D vwCl (PARW T b (va_up y 2 (va_up d2 3 (numP 0 7 (tx3 (y 7) L g)))) (tx4 (y 7) L g)) H := hP
  have hD : va_D A (PARW T b (va_up y 2 (va_up d2 3 (numP 0 7 (tx3 (y 7) L g)))) (tx4 (y 7) L g)) := hD
  refine lv_aload_n hx hb dX10_readText_51 rfl (lv_at hl 0 rfl) ?_
  have J52 : W p l e ({ frames := 6, cells := 0, slots := 0, locals := 128 } : Room) s m args below meth c H locs 0 0 Q (F0 m 65 ls [.int (bI (kindB (tx4 (y 7) L g) 3)), .ref (b 0)]) := by
    refine wrVi (As := [.int (bI (kindB (tx4 (y 7) L g) 3))]) (rest := []) ⟨hx, hb, hml, hown, hts⟩ (c_X10_takes l D T b (va_up y 2 (va_up d2 3 (numP 0 7 (tx3 (y 7) L g)))) (tx4 (y 7) L g) ((kindB (tx4 (y 7) L g) 3)) L hL hL2 h4 _) (cwV 1 hts gX10_readText_X10_takes rfl rfl rfl (by decide +kernel) ⟨Nat.le_of_ble_eq_true rfl, Nat.le_of_ble_eq_true rfl⟩) (Foc.rfl _ _) hK hP hD hS hA 0 rfl rfl rfl hl.1 rfl (Nat.le_of_ble_eq_true rfl) ⟨Nat.zero_le _, Nat.zero_le _⟩ dX10_readText_65 (fun H locs hP hD hS => ?_)
    have hP : va_P D vwCl (PARW T b (va_up y 2 (va_up d2 3 (numP 0 7 (tx3 (y 7) L g)))) (takesP (y 7) L ((kindB (tx4 (y 7) L g) 3)) (tx4 (y 7) L g))) H := hP
    have hD : va_D A (PARW T b (va_up y 2 (va_up d2 3 (numP 0 7 (tx3 (y 7) L g)))) (takesP (y 7) L ((kindB (tx4 (y 7) L g) 3)) (tx4 (y 7) L g))) := hD
    rw [← hd2, txD_is] at hP hD
    have hP : va_P D vwCl (PARW T b (va_up y 2 (txD (y 7) L (y 2) g)) (tx5 (y 7) L g)) H := hP
    have hD : va_D A (PARW T b (va_up y 2 (txD (y 7) L (y 2) g)) (tx5 (y 7) L g)) := hD
    refine lv_pop hx hb dX10_readText_68 rfl ?_
    exact K69  _ _ _ hP hD hS (lv_sub hl [0] rfl)
  refine lv_aload_n hx hb dX10_readText_52 rfl (lv_at hl 0 rfl) ?_
  refine va_get (D := D) (ci := 10) (v := .int ((tx4 (y 7) L g).2.2.1)) (C := RX10) (T := TX10) (N := 19) hx hb hts i10 hown hK hP 0 rfl rfl 13 (by decide) w3 (fun _ h9 => h9) rfl dX10_readText_53 ?_
  refine lv_iconst (v := 3) hx hb dX10_readText_56 (by decide) ?_
  refine lv_icmp_ne (tgt := 64) hx hb dX10_readText_57 (by decide) (fun c57 => ?_) (fun c57 => ?_)
  ·
    refine lv_iconst (v := 0) hx hb dX10_readText_64 (by decide) ?_
    refine endI (r := bI (kindB (tx4 (y 7) L g) 3)) (by simp [bI, kindB, c57]) ?_
    exact J52
  ·
    refine lv_iconst (v := 1) hx hb dX10_readText_60 (by decide) ?_
    refine lv_goto (tgt := 65) hx hb dX10_readText_61 (by decide) ?_
    refine endI (r := bI (kindB (tx4 (y 7) L g) 3)) (by simp [bI, kindB, c57]) ?_
    exact J52
