/-! what the window tells as one number -/
def askV (o : Nat → Nat → Int32) (N q j : Nat) : Int32 :=
  if q = 23 then o 4 j else if q = 24 then o 5 j else if q = 25 then o 6 j else if q = 26 then o 7 j else if q = 27 then bI (decide (o 8 j = 0)) else if q = 28 then bI (decide (o 8 j = 1)) else if q = 29 then bI (decide (o 8 j = 2)) else if q = 30 then bI (decide (o 8 j = 3))
  else if q = 31 then (if o 8 j = 0 then -101 else o 9 j) else if q = 32 then (if o 10 j = -1 then -101 else o 10 j) else if q = 38 then o 2 j else if q = 39 then o 3 j else cntI (fun k => decide (o 8 k = 1) && decide (o 10 k = nI j)) N 0 0
def stA (o : Nat → Nat → Int32) (N : Nat) : Int64 := ((((7 * (o 0 0).toInt64 + (o 0 6).toInt64) * 31 + (o 0 1).toInt64) * 31 + (o 0 2).toInt64) * 31 + (o 0 3).toInt64) * 1009 + (sumI (fun k => decide (o 8 k = 1)) (fun k => o 6 k) N 0 0).toInt64
def stS (o : Nat → Nat → Int32) (C k : Nat) (x : Int64) : Int64 := x * 11 + (o 1 (k % C)).toInt64
def stK (o : Nat → Nat → Int32) (N k : Nat) (x : Int64) : Int64 := iter (fun q x => x * 101 + (askV o N q k).toInt64) 3 38 x
def stP (o : Nat → Nat → Int32) (N k : Nat) (x : Int64) : Int64 := iter (fun q x => x * 1009 + (askV o N q k).toInt64) 10 23 x
def stC (o : Nat → Nat → Int32) (N K C : Nat) : Int64 := iter (stP o N) N 0 (iter (stK o N) K 0 (iter (stS o C) C 0 (stA o N)))
theorem nI_nneg {n : Nat} {z : Int32} (hn : n < 2 ^ 31) (hz : z < 0) : ¬ nI n = z := fun e => nI_pos hn (by rw [e]; exact hz)
section EL
variable {p : Program} {l : Launch} {e : Env} {R : Room} {s : State} {m : MethodId} {args : Array Value} {below : List Frame} {meth : Method} {c : Code} {H : Heap} {locs : List Loc} {cells slots : Nat} {Q : State → Prop} {pc : Nat} {ls : Array Slot} {rest : List Value}
theorem endL {v r : Int64} (hv : v = r) (k : W p l e R s m args below meth c H locs cells slots Q (F0 m pc ls (.long r :: rest))) : W p l e R s m args below meth c H locs cells slots Q (F0 m pc ls (.long v :: rest)) := hv ▸ k
end EL
set_option maxHeartbeats 1000000 in
theorem c_ask_varN (l : Launch) (hl9 : l.stackTraces = false) (D : va_G) (T : Nat → ClassId) (aK aV : Nat → Nat) (v : Nat → Nat) (B : Nat → Nat → Nat) (O : Nat → Nat → Nat → Int32) (g : CSt) (ln un nx pl : Nat) (f0 f1 f2 : Nat → Int32) (q j : Nat) (N K C nt : Nat) (hOI : OI (O 0) N K C nt) (h1 : 23 ≤ q) (h2 : q < 33) (h3 : j < N) (sz : Nat) : Met l yL_call__ wsL_call__ ({ frames := 11, cells := 4, slots := 24, locals := 242 } : Room) (va_Pc [.ref (v 0), .int (nI q), .int (nI j)] (LWP D T aK aV (WIN T v B O g ln un nx pl f0 f1 f2) sz)) (va_Qi (fun r9 (_ : Unit) => r9 = askV (O 0) N q j) (fun _ t => QS D T (va_A (WIN T v B O g ln un nx pl f0 f1 f2) sz) (WIN T v B O g ln un nx pl f0 f1 f2) t) (va_A (WIN T v B O g ln un nx pl f0 f1 f2) sz)) 4 24 (va_A (WIN T v B O g ln un nx pl f0 f1 f2) sz) := by
  obtain rfl | rfl | rfl | rfl | rfl | rfl | rfl | rfl | rfl | rfl : q = 23 ∨ q = 24 ∨ q = 25 ∨ q = 26 ∨ q = 27 ∨ q = 28 ∨ q = 29 ∨ q = 30 ∨ q = 31 ∨ q = 32 := by omega
  · exact c_ask_personOf l hl9 D T aK aV v B O g ln un nx pl f0 f1 f2 j N K C nt hOI h3 sz
  · exact c_ask_sortOf l hl9 D T aK aV v B O g ln un nx pl f0 f1 f2 j N K C nt hOI h3 sz
  · exact c_ask_angerOf l hl9 D T aK aV v B O g ln un nx pl f0 f1 f2 j N K C nt hOI h3 sz
  · exact c_ask_filedIn l hl9 D T aK aV v B O g ln un nx pl f0 f1 f2 j N K C nt hOI h3 sz
  · exact c_ask_isWaiting l hl9 D T aK aV v B O g ln un nx pl f0 f1 f2 j N K C nt hOI h3 sz
  · exact c_ask_isAnswered l hl9 D T aK aV v B O g ln un nx pl f0 f1 f2 j N K C nt hOI h3 sz
  · exact c_ask_isDismissed l hl9 D T aK aV v B O g ln un nx pl f0 f1 f2 j N K C nt hOI h3 sz
  · exact c_ask_isGivenUp l hl9 D T aK aV v B O g ln un nx pl f0 f1 f2 j N K C nt hOI h3 sz
  · exact c_ask_closedIn l hl9 D T aK aV v B O g ln un nx pl f0 f1 f2 j N K C nt hOI h3 sz
  · exact c_ask_clerkOf l hl9 D T aK aV v B O g ln un nx pl f0 f1 f2 j N K C nt hOI h3 sz
set_option maxHeartbeats 1000000 in
theorem c_ask_varK (l : Launch) (hl9 : l.stackTraces = false) (D : va_G) (T : Nat → ClassId) (aK aV : Nat → Nat) (v : Nat → Nat) (B : Nat → Nat → Nat) (O : Nat → Nat → Nat → Int32) (g : CSt) (ln un nx pl : Nat) (f0 f1 f2 : Nat → Int32) (q j : Nat) (N K C nt : Nat) (hOI : OI (O 0) N K C nt) (h1 : 38 ≤ q) (h2 : q < 41) (h3 : j < K) (sz : Nat) : Met l yL_call__ wsL_call__ ({ frames := 11, cells := 4, slots := 24, locals := 242 } : Room) (va_Pc [.ref (v 0), .int (nI q), .int (nI j)] (LWP D T aK aV (WIN T v B O g ln un nx pl f0 f1 f2) sz)) (va_Qi (fun r9 (_ : Unit) => r9 = askV (O 0) N q j) (fun _ t => QS D T (va_A (WIN T v B O g ln un nx pl f0 f1 f2) sz) (WIN T v B O g ln un nx pl f0 f1 f2) t) (va_A (WIN T v B O g ln un nx pl f0 f1 f2) sz)) 4 24 (va_A (WIN T v B O g ln un nx pl f0 f1 f2) sz) := by
  obtain rfl | rfl | rfl : q = 38 ∨ q = 39 ∨ q = 40 := by omega
  · exact c_ask_skillOf l hl9 D T aK aV v B O g ln un nx pl f0 f1 f2 j N K C nt hOI h3 sz
  · exact c_ask_oilOf l hl9 D T aK aV v B O g ln un nx pl f0 f1 f2 j N K C nt hOI h3 sz
  · exact c_ask_answeredBy l hl9 D T aK aV v B O g ln un nx pl f0 f1 f2 j N K C nt hOI h3 sz

set_option maxHeartbeats 8000000 in
set_option maxRecDepth 100000 in
theorem c_L_state (l : Launch) (hl9 : l.stackTraces = false) (D : va_G) (T : Nat → ClassId) (aK aV : Nat → Nat) (v : Nat → Nat) (B : Nat → Nat → Nat) (O : Nat → Nat → Nat → Int32) (g : CSt) (ln un nx pl : Nat) (f0 f1 f2 : Nat → Int32)  (N K C nt : Nat) (hOI : OI (O 0) N K C nt) (sz : Nat) : Met l yL_state wsL_state ({ frames := 12, cells := 1400, slots := 8400, locals := 264 } : Room) (va_Pc [.ref (v 0)] (LWP D T aK aV (WIN T v B O g ln un nx pl f0 f1 f2) sz)) (va_Ql (fun r9 (_ : Unit) => r9 = (stC (O 0) N K C)) (fun _ t => QS D T (va_A (WIN T v B O g ln un nx pl f0 f1 f2) sz) (WIN T v B O g ln un nx pl f0 f1 f2) t) (va_A (WIN T v B O g ln un nx pl f0 f1 f2) sz)) 1400 8400 (va_A (WIN T v B O g ln un nx pl f0 f1 f2) sz) := by
  refine metQl (cc := cL_state) (maxL := 5) (by decide) rfl (Nat.le_of_ble_eq_true rfl) ?_
  intro p e s m args below meth c Q ls A hx hb hml hown hts hNC hC hP hK hD hA hS hl hret
  have hown : s.vm.findClass RL = some m.cls := hown
  have hl : lv_has ls 5 [(0, .ref (v 0))] := hl
  have k1062 := hts (Cond.constantLong RL 212 (7)) (List.mem_cons_of_mem _ (gT_of mw_1062 rfl))
  have k1063 := hts (Cond.constantLong RL 220 (31)) (List.mem_cons_of_mem _ (gT_of mw_1063 rfl))
  have k1064 := hts (Cond.constantLong RL 231 (1009)) (List.mem_cons_of_mem _ (gT_of mw_1064 rfl))
  have k1065 := hts (Cond.constantLong RL 239 (11)) (List.mem_cons_of_mem _ (gT_of mw_1065 rfl))
  have k1066 := hts (Cond.constantLong RL 244 (101)) (List.mem_cons_of_mem _ (gT_of mw_1066 rfl))
  obtain ⟨hN, hN2, hKn, hK2, hCn, hC1, hC2, hn, hnt, hSK⟩ := id hOI
  have hgo : ∀ (H : Heap) (locs : List Loc), va_P D vwCl (WIN T v B O g ln un nx pl f0 f1 f2) H → va_S A s.heap H locs → W p l e ({ frames := 12, cells := 1400, slots := 8400, locals := 264 } : Room) s m args below meth c H locs (0) (0) Q (F0 m 0 ls []) := by
    intro H locs hP hS
    refine lv_ldc2 (v := 7) hx hb hown k1062 dL_state_0 ?_
    refine lv_aload_n hx hb dL_state_3 rfl (lv_at hl 0 rfl) ?_
    refine rdV (As := []) (rest := [.long (7)]) ⟨hx, hb, hml, hown, hts⟩ (c_X9_night l D T v B O g ln un nx pl f0 f1 f2 ) (cwV 0 hts (gC gl_X9_night) rfl rfl rfl (by decide +kernel) ⟨Nat.le_of_ble_eq_true rfl, Nat.le_of_ble_eq_true rfl⟩) hK hP 0 rfl rfl rfl hl.1 rfl (Nat.le_of_ble_eq_true rfl) ⟨by show _ ≤ 1400; omega, by show _ ≤ 8400; omega⟩ dL_state_4 ?_
    refine lv_i2l (v := ((O 0) 0 0).toInt64) hx hb dL_state_7 rfl ?_
    refine lv_lmul hx hb dL_state_8 ?_
    refine lv_aload_n hx hb dL_state_9 rfl (lv_at hl 0 rfl) ?_
    refine rdV (As := []) (rest := [.long (7 * (((O 0) 0 0).toInt64))]) ⟨hx, hb, hml, hown, hts⟩ (c_X9_oilUsed l D T v B O g ln un nx pl f0 f1 f2 ) (cwV 0 hts (gC gl_X9_oilUsed) rfl rfl rfl (by decide +kernel) ⟨Nat.le_of_ble_eq_true rfl, Nat.le_of_ble_eq_true rfl⟩) hK hP 0 rfl rfl rfl hl.1 rfl (Nat.le_of_ble_eq_true rfl) ⟨by show _ ≤ 1400; omega, by show _ ≤ 8400; omega⟩ dL_state_10 ?_
    refine lv_i2l (v := ((O 0) 0 6).toInt64) hx hb dL_state_13 rfl ?_
    refine lv_ladd hx hb dL_state_14 ?_
    refine lv_lstore_n (lv' := [(1, .long ((7 * (((O 0) 0 0).toInt64)) + (((O 0) 0 6).toInt64))), (0, .ref (v 0))]) hx hb dL_state_15 rfl hl (by decide) rfl (fun ls hl => ?_)
    refine lv_lload_n hx hb dL_state_16 rfl (lv_at hl 0 rfl) ?_
    refine lv_ldc2 (v := 31) hx hb hown k1063 dL_state_17 ?_
    refine lv_lmul hx hb dL_state_20 ?_
    refine lv_aload_n hx hb dL_state_21 rfl (lv_at hl 1 rfl) ?_
    refine rdV (As := []) (rest := [.long (((7 * (((O 0) 0 0).toInt64)) + (((O 0) 0 6).toInt64)) * 31)]) ⟨hx, hb, hml, hown, hts⟩ (c_X9_glareLimit l D T v B O g ln un nx pl f0 f1 f2 ) (cwV 0 hts (gC gl_X9_glareLimit) rfl rfl rfl (by decide +kernel) ⟨Nat.le_of_ble_eq_true rfl, Nat.le_of_ble_eq_true rfl⟩) hK hP 0 rfl rfl rfl hl.1 rfl (Nat.le_of_ble_eq_true rfl) ⟨by show _ ≤ 1400; omega, by show _ ≤ 8400; omega⟩ dL_state_22 ?_
    refine lv_i2l (v := ((O 0) 0 1).toInt64) hx hb dL_state_25 rfl ?_
    refine lv_ladd hx hb dL_state_26 ?_
    refine lv_lstore_n (lv' := [(1, .long ((((7 * (((O 0) 0 0).toInt64)) + (((O 0) 0 6).toInt64)) * 31) + (((O 0) 0 1).toInt64))), (0, .ref (v 0))]) hx hb dL_state_27 rfl hl (by decide) rfl (fun ls hl => ?_)
    refine lv_lload_n hx hb dL_state_28 rfl (lv_at hl 0 rfl) ?_
    refine lv_ldc2 (v := 31) hx hb hown k1063 dL_state_29 ?_
    refine lv_lmul hx hb dL_state_32 ?_
    refine lv_aload_n hx hb dL_state_33 rfl (lv_at hl 1 rfl) ?_
    refine rdV (As := []) (rest := [.long (((((7 * (((O 0) 0 0).toInt64)) + (((O 0) 0 6).toInt64)) * 31) + (((O 0) 0 1).toInt64)) * 31)]) ⟨hx, hb, hml, hown, hts⟩ (c_X9_gloomLimit l D T v B O g ln un nx pl f0 f1 f2 ) (cwV 0 hts (gC gl_X9_gloomLimit) rfl rfl rfl (by decide +kernel) ⟨Nat.le_of_ble_eq_true rfl, Nat.le_of_ble_eq_true rfl⟩) hK hP 0 rfl rfl rfl hl.1 rfl (Nat.le_of_ble_eq_true rfl) ⟨by show _ ≤ 1400; omega, by show _ ≤ 8400; omega⟩ dL_state_34 ?_
    refine lv_i2l (v := ((O 0) 0 2).toInt64) hx hb dL_state_37 rfl ?_
    refine lv_ladd hx hb dL_state_38 ?_
    refine lv_lstore_n (lv' := [(1, .long ((((((7 * (((O 0) 0 0).toInt64)) + (((O 0) 0 6).toInt64)) * 31) + (((O 0) 0 1).toInt64)) * 31) + (((O 0) 0 2).toInt64))), (0, .ref (v 0))]) hx hb dL_state_39 rfl hl (by decide) rfl (fun ls hl => ?_)
    refine lv_lload_n hx hb dL_state_40 rfl (lv_at hl 0 rfl) ?_
    refine lv_ldc2 (v := 31) hx hb hown k1063 dL_state_41 ?_
    refine lv_lmul hx hb dL_state_44 ?_
    refine lv_aload_n hx hb dL_state_45 rfl (lv_at hl 1 rfl) ?_
    refine rdV (As := []) (rest := [.long (((((((7 * (((O 0) 0 0).toInt64)) + (((O 0) 0 6).toInt64)) * 31) + (((O 0) 0 1).toInt64)) * 31) + (((O 0) 0 2).toInt64)) * 31)]) ⟨hx, hb, hml, hown, hts⟩ (c_X9_tideLimit l D T v B O g ln un nx pl f0 f1 f2 ) (cwV 0 hts (gC gl_X9_tideLimit) rfl rfl rfl (by decide +kernel) ⟨Nat.le_of_ble_eq_true rfl, Nat.le_of_ble_eq_true rfl⟩) hK hP 0 rfl rfl rfl hl.1 rfl (Nat.le_of_ble_eq_true rfl) ⟨by show _ ≤ 1400; omega, by show _ ≤ 8400; omega⟩ dL_state_46 ?_
    refine lv_i2l (v := ((O 0) 0 3).toInt64) hx hb dL_state_49 rfl ?_
    refine lv_ladd hx hb dL_state_50 ?_
    refine lv_lstore_n (lv' := [(1, .long ((((((((7 * (((O 0) 0 0).toInt64)) + (((O 0) 0 6).toInt64)) * 31) + (((O 0) 0 1).toInt64)) * 31) + (((O 0) 0 2).toInt64)) * 31) + (((O 0) 0 3).toInt64))), (0, .ref (v 0))]) hx hb dL_state_51 rfl hl (by decide) rfl (fun ls hl => ?_)
    refine lv_lload_n hx hb dL_state_52 rfl (lv_at hl 0 rfl) ?_
    refine lv_ldc2 (v := 1009) hx hb hown k1064 dL_state_53 ?_
    refine lv_lmul hx hb dL_state_56 ?_
    refine lv_aload_n hx hb dL_state_57 rfl (lv_at hl 1 rfl) ?_
    refine rdV (As := []) (rest := [.long (((((((((7 * (((O 0) 0 0).toInt64)) + (((O 0) 0 6).toInt64)) * 31) + (((O 0) 0 1).toInt64)) * 31) + (((O 0) 0 2).toInt64)) * 31) + (((O 0) 0 3).toInt64)) * 1009)]) ⟨hx, hb, hml, hown, hts⟩ (c_X9_comfort l D T v B O g ln un nx pl f0 f1 f2 N K C nt hOI) (cwV 0 hts (gC gl_X9_comfort) rfl rfl rfl (by decide +kernel) ⟨Nat.le_of_ble_eq_true rfl, Nat.le_of_ble_eq_true rfl⟩) hK hP 0 rfl rfl rfl hl.1 rfl (Nat.le_of_ble_eq_true rfl) ⟨by show _ ≤ 1400; omega, by show _ ≤ 8400; omega⟩ dL_state_58 ?_
    refine lv_i2l (v := (sumI (fun k => decide ((O 0) 8 k = 1)) (fun k => (O 0) 6 k) N 0 0).toInt64) hx hb dL_state_61 rfl ?_
    refine lv_ladd hx hb dL_state_62 ?_
    refine lv_lstore_n (lv' := [(1, .long ((((((((((7 * (((O 0) 0 0).toInt64)) + (((O 0) 0 6).toInt64)) * 31) + (((O 0) 0 1).toInt64)) * 31) + (((O 0) 0 2).toInt64)) * 31) + (((O 0) 0 3).toInt64)) * 1009) + ((sumI (fun k => decide ((O 0) 8 k = 1)) (fun k => (O 0) 6 k) N 0 0).toInt64))), (0, .ref (v 0))]) hx hb dL_state_63 rfl hl (by decide) rfl (fun ls hl => ?_)
    refine lv_iconst (v := 0) hx hb dL_state_64 (by decide) ?_
    refine lv_istore_n (lv' := [(3, .int (0)), (1, .long ((((((((((7 * (((O 0) 0 0).toInt64)) + (((O 0) 0 6).toInt64)) * 31) + (((O 0) 0 1).toInt64)) * 31) + (((O 0) 0 2).toInt64)) * 31) + (((O 0) 0 3).toInt64)) * 1009) + ((sumI (fun k => decide ((O 0) 8 k = 1)) (fun k => (O 0) 6 k) N 0 0).toInt64))), (0, .ref (v 0))]) hx hb dL_state_65 rfl hl (by decide) rfl (fun ls hl => ?_)
    have L66 : ∀ (n9 : Nat) (k : Nat) (x : Int64) (cb1 sb1 : Nat), (C - k) < n9 → (k ≤ C) → (iter (stS (O 0) C) (C - k) k x = iter (stS (O 0) C) C 0 (stA (O 0) N)) → cb1 ≤ 0 + 0 + 4 * k → sb1 ≤ 0 + 0 + 24 * k → ∀ (H : Heap) (locs : List Loc) (ls : Array Slot), va_P D vwCl (WIN T v B O g ln un nx pl f0 f1 f2) H → va_D A (WIN T v B O g ln un nx pl f0 f1 f2) → va_S A s.heap H locs → lv_has ls 5 [(3, .int (nI k)), (1, .long (x)), (0, .ref (v 0))] → W p l e ({ frames := 12, cells := 1400, slots := 8400, locals := 264 } : Room) s m args below meth c H locs cb1 sb1 Q (F0 m 66 ls []) := by
      intro n9
      induction n9 with
      | zero => intro k x cb1 sb1 hm9; exact absurd hm9 (Nat.not_lt_zero _)
      | succ n9 ih66 =>
        intro k x cb1 sb1 hm9 hk hR hcb1 hsb1 H locs ls hP hD hS hl
        refine lv_iload_n hx hb dL_state_66 rfl (lv_at hl 0 rfl) ?_
        refine lv_aload_n hx hb dL_state_67 rfl (lv_at hl 2 rfl) ?_
        refine rdV (As := []) (rest := [.int (nI k)]) ⟨hx, hb, hml, hown, hts⟩ (c_X9_cloudCount l D T v B O g ln un nx pl f0 f1 f2 ) (cwV 0 hts (gC gl_X9_cloudCount) rfl rfl rfl (by decide +kernel) ⟨Nat.le_of_ble_eq_true rfl, Nat.le_of_ble_eq_true rfl⟩) hK hP 0 rfl rfl rfl hl.1 rfl (Nat.le_of_ble_eq_true rfl) ⟨by show _ ≤ 1400; omega, by show _ ≤ 8400; omega⟩ dL_state_68 ?_
        refine endI (r := nI C) (hCn) ?_
        refine lv_icmp_ge (tgt := 95) hx hb dL_state_71 (by decide) (fun c71 => ?_) (fun c71 => ?_)
        ·
          have c71 : C ≤ k := (nI_leI (a := C) (b := k) (by omega) (by omega)).mp c71
          rw [iter_done (by omega)] at hR
          refine lv_iconst (v := 0) hx hb dL_state_95 (by decide) ?_
          refine lv_istore_n (lv' := [(3, .int (0)), (1, .long (x)), (0, .ref (v 0))]) hx hb dL_state_96 rfl hl (by decide) rfl (fun ls hl => ?_)
          have L97 : ∀ (n9 : Nat) (k2 : Nat) (y : Int64) (cb2 sb2 : Nat), (K - k2) < n9 → (k2 ≤ K) → (iter (stK (O 0) N) (K - k2) k2 y = iter (stK (O 0) N) K 0 x) → cb2 ≤ 0 + 0 + 4 * k + 0 + 12 * k2 → sb2 ≤ 0 + 0 + 24 * k + 0 + 72 * k2 → ∀ (H : Heap) (locs : List Loc) (ls : Array Slot), va_P D vwCl (WIN T v B O g ln un nx pl f0 f1 f2) H → va_D A (WIN T v B O g ln un nx pl f0 f1 f2) → va_S A s.heap H locs → lv_has ls 5 [(3, .int (nI k2)), (1, .long (y)), (0, .ref (v 0))] → W p l e ({ frames := 12, cells := 1400, slots := 8400, locals := 264 } : Room) s m args below meth c H locs cb2 sb2 Q (F0 m 97 ls []) := by
            intro n9
            induction n9 with
            | zero => intro k2 y cb2 sb2 hm9; exact absurd hm9 (Nat.not_lt_zero _)
            | succ n9 ih97 =>
              intro k2 y cb2 sb2 hm9 hk2 hR2 hcb2 hsb2 H locs ls hP hD hS hl
              refine lv_iload_n hx hb dL_state_97 rfl (lv_at hl 0 rfl) ?_
              refine lv_aload_n hx hb dL_state_98 rfl (lv_at hl 2 rfl) ?_
              refine rdV (As := []) (rest := [.int (nI k2)]) ⟨hx, hb, hml, hown, hts⟩ (c_X9_clerkCount l D T v B O g ln un nx pl f0 f1 f2 ) (cwV 0 hts (gC gl_X9_clerkCount) rfl rfl rfl (by decide +kernel) ⟨Nat.le_of_ble_eq_true rfl, Nat.le_of_ble_eq_true rfl⟩) hK hP 0 rfl rfl rfl hl.1 rfl (Nat.le_of_ble_eq_true rfl) ⟨by show _ ≤ 1400; omega, by show _ ≤ 8400; omega⟩ dL_state_99 ?_
              refine endI (r := nI K) (hKn) ?_
              refine lv_icmp_ge (tgt := 143) hx hb dL_state_102 (by decide) (fun c102 => ?_) (fun c102 => ?_)
              ·
                have c102 : K ≤ k2 := (nI_leI (a := K) (b := k2) (by omega) (by omega)).mp c102
                rw [iter_done (by omega)] at hR2
                refine lv_iconst (v := 0) hx hb dL_state_143 (by decide) ?_
                refine lv_istore_n (lv' := [(3, .int (0)), (1, .long (y)), (0, .ref (v 0))]) hx hb dL_state_144 rfl hl (by decide) rfl (fun ls hl => ?_)
                have L145 : ∀ (n9 : Nat) (k4 : Nat) (z : Int64) (cb3 sb3 : Nat), (N - k4) < n9 → (k4 ≤ N) → (iter (stP (O 0) N) (N - k4) k4 z = iter (stP (O 0) N) N 0 y) → cb3 ≤ 0 + 0 + 4 * k + 0 + 12 * k2 + 0 + 40 * k4 → sb3 ≤ 0 + 0 + 24 * k + 0 + 72 * k2 + 0 + 240 * k4 → ∀ (H : Heap) (locs : List Loc) (ls : Array Slot), va_P D vwCl (WIN T v B O g ln un nx pl f0 f1 f2) H → va_D A (WIN T v B O g ln un nx pl f0 f1 f2) → va_S A s.heap H locs → lv_has ls 5 [(3, .int (nI k4)), (1, .long (z)), (0, .ref (v 0))] → W p l e ({ frames := 12, cells := 1400, slots := 8400, locals := 264 } : Room) s m args below meth c H locs cb3 sb3 Q (F0 m 145 ls []) := by
                  intro n9
                  induction n9 with
                  | zero => intro k4 z cb3 sb3 hm9; exact absurd hm9 (Nat.not_lt_zero _)
                  | succ n9 ih145 =>
                    intro k4 z cb3 sb3 hm9 hk4 hR4 hcb3 hsb3 H locs ls hP hD hS hl
                    refine lv_iload_n hx hb dL_state_145 rfl (lv_at hl 0 rfl) ?_
                    refine lv_aload_n hx hb dL_state_146 rfl (lv_at hl 2 rfl) ?_
                    refine rdV (As := []) (rest := [.int (nI k4)]) ⟨hx, hb, hml, hown, hts⟩ (c_X9_complaintCount l D T v B O g ln un nx pl f0 f1 f2 ) (cwV 0 hts (gC gl_X9_complaintCount) rfl rfl rfl (by decide +kernel) ⟨Nat.le_of_ble_eq_true rfl, Nat.le_of_ble_eq_true rfl⟩) hK hP 0 rfl rfl rfl hl.1 rfl (Nat.le_of_ble_eq_true rfl) ⟨by show _ ≤ 1400; omega, by show _ ≤ 8400; omega⟩ dL_state_147 ?_
                    refine endI (r := nI N) (hN) ?_
                    refine lv_icmp_ge (tgt := 191) hx hb dL_state_150 (by decide) (fun c150 => ?_) (fun c150 => ?_)
                    ·
                      have c150 : N ≤ k4 := (nI_leI (a := N) (b := k4) (by omega) (by omega)).mp c150
                      rw [iter_done (by omega)] at hR4
                      refine lv_lload_n hx hb dL_state_191 rfl (lv_at hl 1 rfl) ?_
                      refine endL (r := stC (O 0) N K C) (by rw [hR4, hR2, hR]; rfl) ?_
                      exact hret _ _ _ _ _ _ dL_state_192 hP hD hS (by omega) (by omega)
                    ·
                      have c150 : ¬ N ≤ k4 := fun h9 => c150 ((nI_leI (a := N) (b := k4) (by omega) (by omega)).mpr h9)
                      refine lv_bipush (v := 23) hx hb dL_state_153 (by decide) ?_
                      refine lv_istore (lv' := [(4, .int (23)), (3, .int (nI k4)), (1, .long (z)), (0, .ref (v 0))]) hx hb dL_state_155 hl (by decide) rfl (fun ls hl => ?_)
                      have L157 : ∀ (n9 : Nat) (q5 : Nat) (z2 : Int64) (cb4 sb4 : Nat), (33 - q5) < n9 → (23 ≤ q5) → (q5 ≤ 33) → (iter (fun q x => x * 1009 + (askV (O 0) N q k4).toInt64) (33 - q5) q5 z2 = stP (O 0) N k4 z) → cb4 ≤ 0 + 0 + 4 * k + 0 + 12 * k2 + 0 + 40 * k4 + 0 + 4 * ((q5 - 23)) → sb4 ≤ 0 + 0 + 24 * k + 0 + 72 * k2 + 0 + 240 * k4 + 0 + 24 * ((q5 - 23)) → ∀ (H : Heap) (locs : List Loc) (ls : Array Slot), va_P D vwCl (WIN T v B O g ln un nx pl f0 f1 f2) H → va_D A (WIN T v B O g ln un nx pl f0 f1 f2) → va_S A s.heap H locs → lv_has ls 5 [(4, .int (nI q5)), (3, .int (nI k4)), (1, .long (z2)), (0, .ref (v 0))] → W p l e ({ frames := 12, cells := 1400, slots := 8400, locals := 264 } : Room) s m args below meth c H locs cb4 sb4 Q (F0 m 157 ls []) := by
                        intro n9
                        induction n9 with
                        | zero => intro q5 z2 cb4 sb4 hm9; exact absurd hm9 (Nat.not_lt_zero _)
                        | succ n9 ih157 =>
                          intro q5 z2 cb4 sb4 hm9 hq3 hq4 hR5 hcb4 hsb4 H locs ls hP hD hS hl
                          refine lv_iload hx hb dL_state_157 (lv_at hl 0 rfl) ?_
                          refine lv_bipush (v := 33) hx hb dL_state_159 (by decide) ?_
                          refine lv_icmp_ge (tgt := 185) hx hb dL_state_161 (by decide) (fun c161 => ?_) (fun c161 => ?_)
                          ·
                            have c161 : 33 ≤ q5 := (nI_leI (a := 33) (b := q5) (by omega) (by omega)).mp c161
                            refine lv_iinc (v := nI (k4 + 1)) (lv' := [(3, .int (nI (k4 + 1))), (4, .int (nI q5)), (1, .long (z2)), (0, .ref (v 0))]) hx hb dL_state_185 hl (k := 1) rfl (nI_1 _) (by decide) rfl (fun ls hl => ?_)
                            refine lv_goto (tgt := 145) hx hb dL_state_188 (by decide) ?_
                            exact ih145 (k4 + 1) z2 _ _ (by omega) (by omega) (by rw [iter_step (by omega)] at hR4; rw [iter_done (by omega)] at hR5; rw [hR5]; exact hR4) (by omega) (by omega) _ _ _ hP hD hS (lv_sub hl [0, 2, 3] rfl)
                          ·
                            have c161 : ¬ 33 ≤ q5 := fun h9 => c161 ((nI_leI (a := 33) (b := q5) (by omega) (by omega)).mpr h9)
                            refine lv_lload_n hx hb dL_state_164 rfl (lv_at hl 2 rfl) ?_
                            refine lv_ldc2 (v := 1009) hx hb hown k1064 dL_state_165 ?_
                            refine lv_lmul hx hb dL_state_168 ?_
                            refine lv_aload_n hx hb dL_state_169 rfl (lv_at hl 3 rfl) ?_
                            refine lv_iload hx hb dL_state_170 (lv_at hl 0 rfl) ?_
                            refine lv_iload_n hx hb dL_state_172 rfl (lv_at hl 1 rfl) ?_
                            refine lqSi (As := [.ref (v 0), .int (nI q5), .int (nI k4)]) (rest := [.long (z2 * 1009)]) ⟨hx, hb, hml, hown, hts⟩ (c_ask_varN l hl9 D T aK aV v B O g ln un nx pl f0 f1 f2 q5 k4 N K C nt hOI (by omega) (by omega) (by omega) _) (va_cwS 3 hts (gC gl_L_call__) rfl rfl rfl (by decide +kernel) ⟨Nat.le_of_ble_eq_true rfl, Nat.le_of_ble_eq_true rfl⟩) (Foc.rfl _ _) hC hNC hK hP hD hS hA rfl hl.1 rfl (Nat.le_of_ble_eq_true rfl) ⟨by show _ ≤ 1400; omega, by show _ ≤ 8400; omega⟩ dL_state_173 (fun H locs hP hD hS => ?_)
                            have hP : va_P D vwCl (WIN T v B O g ln un nx pl f0 f1 f2) H := hP
                            have hD : va_D A (WIN T v B O g ln un nx pl f0 f1 f2) := hD
                            refine lv_i2l (v := (askV (O 0) N q5 k4).toInt64) hx hb dL_state_176 rfl ?_
                            refine lv_ladd hx hb dL_state_177 ?_
                            refine lv_lstore_n (lv' := [(1, .long ((z2 * 1009) + ((askV (O 0) N q5 k4).toInt64))), (4, .int (nI q5)), (3, .int (nI k4)), (0, .ref (v 0))]) hx hb dL_state_178 rfl hl (by decide) rfl (fun ls hl => ?_)
                            refine lv_iinc (v := nI (q5 + 1)) (lv' := [(4, .int (nI (q5 + 1))), (1, .long ((z2 * 1009) + ((askV (O 0) N q5 k4).toInt64))), (3, .int (nI k4)), (0, .ref (v 0))]) hx hb dL_state_179 hl (k := 1) rfl (nI_1 _) (by decide) rfl (fun ls hl => ?_)
                            refine lv_goto (tgt := 157) hx hb dL_state_182 (by decide) ?_
                            exact ih157 (q5 + 1) ((z2 * 1009) + ((askV (O 0) N q5 k4).toInt64)) _ _ (by omega) (by omega) (by omega) (by rw [iter_step (by omega)] at hR5; exact hR5) (by omega) (by omega) _ _ _ hP hD hS (lv_sub hl [0, 2, 1, 3] rfl)
                      exact L157 _ 23 z _ _ (Nat.lt_succ_self _) (by omega) (by omega) (by rfl) (by omega) (by omega) _ _ _ hP hD hS (lv_sub hl [0, 1, 2, 3] rfl)
                exact L145 _ 0 y _ _ (Nat.lt_succ_self _) (by omega) (by rfl) (by omega) (by omega) _ _ _ hP hD hS (lv_sub hl [0, 1, 2] rfl)
              ·
                have c102 : ¬ K ≤ k2 := fun h9 => c102 ((nI_leI (a := K) (b := k2) (by omega) (by omega)).mpr h9)
                refine lv_bipush (v := 38) hx hb dL_state_105 (by decide) ?_
                refine lv_istore (lv' := [(4, .int (38)), (3, .int (nI k2)), (1, .long (y)), (0, .ref (v 0))]) hx hb dL_state_107 hl (by decide) rfl (fun ls hl => ?_)
                have L109 : ∀ (n9 : Nat) (q : Nat) (y2 : Int64) (cb5 sb5 : Nat), (41 - q) < n9 → (38 ≤ q) → (q ≤ 41) → (iter (fun q x => x * 101 + (askV (O 0) N q k2).toInt64) (41 - q) q y2 = stK (O 0) N k2 y) → cb5 ≤ 0 + 0 + 4 * k + 0 + 12 * k2 + 0 + 4 * ((q - 38)) → sb5 ≤ 0 + 0 + 24 * k + 0 + 72 * k2 + 0 + 24 * ((q - 38)) → ∀ (H : Heap) (locs : List Loc) (ls : Array Slot), va_P D vwCl (WIN T v B O g ln un nx pl f0 f1 f2) H → va_D A (WIN T v B O g ln un nx pl f0 f1 f2) → va_S A s.heap H locs → lv_has ls 5 [(4, .int (nI q)), (3, .int (nI k2)), (1, .long (y2)), (0, .ref (v 0))] → W p l e ({ frames := 12, cells := 1400, slots := 8400, locals := 264 } : Room) s m args below meth c H locs cb5 sb5 Q (F0 m 109 ls []) := by
                  intro n9
                  induction n9 with
                  | zero => intro q y2 cb5 sb5 hm9; exact absurd hm9 (Nat.not_lt_zero _)
                  | succ n9 ih109 =>
                    intro q y2 cb5 sb5 hm9 hq1 hq2 hR3 hcb5 hsb5 H locs ls hP hD hS hl
                    refine lv_iload hx hb dL_state_109 (lv_at hl 0 rfl) ?_
                    refine lv_bipush (v := 41) hx hb dL_state_111 (by decide) ?_
                    refine lv_icmp_ge (tgt := 137) hx hb dL_state_113 (by decide) (fun c113 => ?_) (fun c113 => ?_)
                    ·
                      have c113 : 41 ≤ q := (nI_leI (a := 41) (b := q) (by omega) (by omega)).mp c113
                      refine lv_iinc (v := nI (k2 + 1)) (lv' := [(3, .int (nI (k2 + 1))), (4, .int (nI q)), (1, .long (y2)), (0, .ref (v 0))]) hx hb dL_state_137 hl (k := 1) rfl (nI_1 _) (by decide) rfl (fun ls hl => ?_)
                      refine lv_goto (tgt := 97) hx hb dL_state_140 (by decide) ?_
                      exact ih97 (k2 + 1) y2 _ _ (by omega) (by omega) (by rw [iter_step (by omega)] at hR2; rw [iter_done (by omega)] at hR3; rw [hR3]; exact hR2) (by omega) (by omega) _ _ _ hP hD hS (lv_sub hl [0, 2, 3] rfl)
                    ·
                      have c113 : ¬ 41 ≤ q := fun h9 => c113 ((nI_leI (a := 41) (b := q) (by omega) (by omega)).mpr h9)
                      refine lv_lload_n hx hb dL_state_116 rfl (lv_at hl 2 rfl) ?_
                      refine lv_ldc2 (v := 101) hx hb hown k1066 dL_state_117 ?_
                      refine lv_lmul hx hb dL_state_120 ?_
                      refine lv_aload_n hx hb dL_state_121 rfl (lv_at hl 3 rfl) ?_
                      refine lv_iload hx hb dL_state_122 (lv_at hl 0 rfl) ?_
                      refine lv_iload_n hx hb dL_state_124 rfl (lv_at hl 1 rfl) ?_
                      refine lqSi (As := [.ref (v 0), .int (nI q), .int (nI k2)]) (rest := [.long (y2 * 101)]) ⟨hx, hb, hml, hown, hts⟩ (c_ask_varK l hl9 D T aK aV v B O g ln un nx pl f0 f1 f2 q k2 N K C nt hOI (by omega) (by omega) (by omega) _) (va_cwS 3 hts (gC gl_L_call__) rfl rfl rfl (by decide +kernel) ⟨Nat.le_of_ble_eq_true rfl, Nat.le_of_ble_eq_true rfl⟩) (Foc.rfl _ _) hC hNC hK hP hD hS hA rfl hl.1 rfl (Nat.le_of_ble_eq_true rfl) ⟨by show _ ≤ 1400; omega, by show _ ≤ 8400; omega⟩ dL_state_125 (fun H locs hP hD hS => ?_)
                      have hP : va_P D vwCl (WIN T v B O g ln un nx pl f0 f1 f2) H := hP
                      have hD : va_D A (WIN T v B O g ln un nx pl f0 f1 f2) := hD
                      refine lv_i2l (v := (askV (O 0) N q k2).toInt64) hx hb dL_state_128 rfl ?_
                      refine lv_ladd hx hb dL_state_129 ?_
                      refine lv_lstore_n (lv' := [(1, .long ((y2 * 101) + ((askV (O 0) N q k2).toInt64))), (4, .int (nI q)), (3, .int (nI k2)), (0, .ref (v 0))]) hx hb dL_state_130 rfl hl (by decide) rfl (fun ls hl => ?_)
                      refine lv_iinc (v := nI (q + 1)) (lv' := [(4, .int (nI (q + 1))), (1, .long ((y2 * 101) + ((askV (O 0) N q k2).toInt64))), (3, .int (nI k2)), (0, .ref (v 0))]) hx hb dL_state_131 hl (k := 1) rfl (nI_1 _) (by decide) rfl (fun ls hl => ?_)
                      refine lv_goto (tgt := 109) hx hb dL_state_134 (by decide) ?_
                      exact ih109 (q + 1) ((y2 * 101) + ((askV (O 0) N q k2).toInt64)) _ _ (by omega) (by omega) (by omega) (by rw [iter_step (by omega)] at hR3; exact hR3) (by omega) (by omega) _ _ _ hP hD hS (lv_sub hl [0, 2, 1, 3] rfl)
                exact L109 _ 38 y _ _ (Nat.lt_succ_self _) (by omega) (by omega) (by rfl) (by omega) (by omega) _ _ _ hP hD hS (lv_sub hl [0, 1, 2, 3] rfl)
          exact L97 _ 0 x _ _ (Nat.lt_succ_self _) (by omega) (by rfl) (by omega) (by omega) _ _ _ hP hD hS (lv_sub hl [0, 1, 2] rfl)
        ·
          have c71 : ¬ C ≤ k := fun h9 => c71 ((nI_leI (a := C) (b := k) (by omega) (by omega)).mpr h9)
          refine lv_lload_n hx hb dL_state_74 rfl (lv_at hl 1 rfl) ?_
          refine lv_ldc2 (v := 11) hx hb hown k1065 dL_state_75 ?_
          refine lv_lmul hx hb dL_state_78 ?_
          refine lv_aload_n hx hb dL_state_79 rfl (lv_at hl 2 rfl) ?_
          refine lv_bipush (v := 18) hx hb dL_state_80 (by decide) ?_
          refine lv_iload_n hx hb dL_state_82 rfl (lv_at hl 0 rfl) ?_
          refine lqSi (As := [.ref (v 0), .int (18), .int (nI k)]) (rest := [.long (x * 11)]) ⟨hx, hb, hml, hown, hts⟩ (c_ask_cloudOf l hl9 D T aK aV v B O g ln un nx pl f0 f1 f2 k N K C nt hOI (by omega) _) (va_cwS 3 hts (gC gl_L_call__) rfl rfl rfl (by decide +kernel) ⟨Nat.le_of_ble_eq_true rfl, Nat.le_of_ble_eq_true rfl⟩) (Foc.rfl _ _) hC hNC hK hP hD hS hA rfl hl.1 rfl (Nat.le_of_ble_eq_true rfl) ⟨by show _ ≤ 1400; omega, by show _ ≤ 8400; omega⟩ dL_state_83 (fun H locs hP hD hS => ?_)
          have hP : va_P D vwCl (WIN T v B O g ln un nx pl f0 f1 f2) H := hP
          have hD : va_D A (WIN T v B O g ln un nx pl f0 f1 f2) := hD
          refine lv_i2l (v := ((O 0) 1 (k % C)).toInt64) hx hb dL_state_86 rfl ?_
          refine lv_ladd hx hb dL_state_87 ?_
          refine lv_lstore_n (lv' := [(1, .long ((x * 11) + (((O 0) 1 (k % C)).toInt64))), (3, .int (nI k)), (0, .ref (v 0))]) hx hb dL_state_88 rfl hl (by decide) rfl (fun ls hl => ?_)
          refine lv_iinc (v := nI (k + 1)) (lv' := [(3, .int (nI (k + 1))), (1, .long ((x * 11) + (((O 0) 1 (k % C)).toInt64))), (0, .ref (v 0))]) hx hb dL_state_89 hl (k := 1) rfl (nI_1 _) (by decide) rfl (fun ls hl => ?_)
          refine lv_goto (tgt := 66) hx hb dL_state_92 (by decide) ?_
          exact ih66 (k + 1) ((x * 11) + (((O 0) 1 (k % C)).toInt64)) _ _ (by omega) (by omega) (by rw [iter_step (by omega)] at hR; exact hR) (by omega) (by omega) _ _ _ hP hD hS (lv_sub hl [0, 1, 2] rfl)
    exact L66 _ 0 ((((((((((7 * (((O 0) 0 0).toInt64)) + (((O 0) 0 6).toInt64)) * 31) + (((O 0) 0 1).toInt64)) * 31) + (((O 0) 0 2).toInt64)) * 31) + (((O 0) 0 3).toInt64)) * 1009) + ((sumI (fun k => decide ((O 0) 8 k = 1)) (fun k => (O 0) 6 k) N 0 0).toInt64)) _ _ (Nat.lt_succ_self _) (by omega) (by rfl) (by omega) (by omega) _ _ _ hP hD hS (lv_sub hl [0, 1, 2] rfl)
  exact hgo _ _ hP hS
