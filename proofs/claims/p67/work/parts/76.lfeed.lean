/-! feeds: the text put into the input -/
theorem stf_of {s : State} {args : Array Value} {Ts : List Cond} {D : va_G} {T : Nat → ClassId} {ws : va_W} {H : Heap} {r q N : Nat} {a : Nat → Int32} {h2 h3 : Value} (hts : ∀ w ∈ Ts, w.before args s = true) (hin : ∀ w ∈ wsJ00, w ∈ Ts) (hK : va_K D vwCl (tyL T) s) (hP : va_P D vwCl ws H) (q0 q1 : Nat) (he : ws[q0]? = some (r, .inr (10, [.ref q, .int 0, h2, h3]))) (ha : ws[q1]? = some (q, .inl (T 3, N, .inl a)))
    (hZ : va_Z "java/lang/String" "COMPACT_STRINGS" "Z" (.int 1) nA s H) (hZq : va_Zq "jdk/internal/util/Preconditions" "SIOOBE_FORMATTER" "Ljava/util/function/BiFunction;" nA s H) : STF r q N a nA s H := by
  obtain ⟨rr, h1, cell, c1, c2, c3, c4⟩ := hP q0 _ he
  have hr : rr = (RJ0, TJ0, 4) := Option.some.inj (h1.symm.trans rfl)
  subst hr
  obtain ⟨hS, hfc, kC, hkC, hkind⟩ := hK.1 10 _ rfl
  refine ⟨⟨cell, c1, by rw [c3]; rfl, by rw [c2]; exact hfc, fun z => z⟩, ?_, ?_, ?_, hZ, hZq⟩
  · obtain ⟨cf, kf, fi, f, hi, hsl⟩ := hS 1 (by decide)
    exact ⟨cf, kf, fi, f, cell, hi, (u_facts hfc hkC (u_lays hts hin (show 1 < 4 by decide)) hi).1, c1, by rw [c3]; exact fun h => (by cases h), by rw [hsl, c4 1 (by decide)]; rfl, fun z => z⟩
  · obtain ⟨cf, kf, fi, f, hi, hsl⟩ := hS 0 (by decide)
    exact ⟨cf, kf, fi, f, cell, hi, (u_facts hfc hkC (u_lays hts hin (show 0 < 4 by decide)) hi).1, c1, by rw [c3]; exact fun h => (by cases h), by rw [hsl, c4 0 (by decide)]; rfl, fun z => z⟩
  · exact ⟨vp_cell (T 3) (N, .inl a), hP q1 _ ha, (hK.2 3 _ rfl).1 N (fun j => .int (a j)), fun q => (by cases q), by show N ≤ (arrV _ _ _).slots.size; rw [arrV_size]; exact Nat.le_refl _, by show ((arrV _ _ _).slots.size).toInt32 = _; rw [arrV_size], fun j hj => arrV_read _ _ hj, fun z => z⟩
def chN (a : Nat → Int32) (N i : Nat) : Int32 := if i < N then a i else 32
theorem chN_ok {a : Nat → Int32} {N : Nat} (h : ∀ k, k < N → ∃ z, z < 128 ∧ a k = nI z) (i : Nat) : ∃ z, z < 128 ∧ chN a N i = nI z := by
  unfold chN
  split
  · exact h i (by assumption)
  · exact ⟨32, by decide, rfl⟩
def fvC (c : Nat → Int32) : Nat → Nat → Int32
  | 0 => fun _ => 0
  | j + 1 => va_up (fvC c j) (j / 4) ((fvC c j (j / 4)) ||| (c j <<< (nI (24 - 8 * (j % 4)) &&& 31)))
def W4 (a b c d : Int32) : Int32 := ((((0 : Int32) ||| (a <<< (nI 24 &&& 31))) ||| (b <<< (nI 16 &&& 31))) ||| (c <<< (nI 8 &&& 31))) ||| (d <<< (nI 0 &&& 31))
theorem fvC_20 (c : Nat → Int32) : ∀ i, i < 5 → fvC c 20 i = W4 (c (4 * i)) (c (4 * i + 1)) (c (4 * i + 2)) (c (4 * i + 3)) := by
  intro i hi
  obtain rfl | rfl | rfl | rfl | rfl : i = 0 ∨ i = 1 ∨ i = 2 ∨ i = 3 ∨ i = 4 := by omega
  all_goals rfl
theorem nI_or (a b : Nat) : nI a ||| nI b = nI (a ||| b) := by
  apply Int32.toBitVec_inj.mp
  show BitVec.ofNat 32 a ||| BitVec.ofNat 32 b = BitVec.ofNat 32 (a ||| b)
  apply BitVec.eq_of_getLsbD_eq
  intro i hi
  simp [BitVec.getLsbD_ofNat, Nat.testBit_or, hi]
theorem nI_or2 {b : Nat} (a k : Nat) (h : b < 2 ^ k) : nI (a * 2 ^ k) ||| nI b = nI (a * 2 ^ k + b) := by
  rw [nI_or, Nat.mul_comm a, Nat.two_pow_add_eq_or_of_lt h]
theorem W4_nat {a b c d : Nat} (ha : a < 128) (hb : b < 128) (hc : c < 128) (hd : d < 128) : W4 (nI a) (nI b) (nI c) (nI d) = nI (a * 2 ^ 24 + b * 2 ^ 16 + c * 2 ^ 8 + d) := by
  unfold W4
  rw [pk_shlN (n := a) _ 24 (by decide) (by omega), pk_shlN (n := b) _ 16 (by decide) (by omega), pk_shlN (n := c) _ 8 (by decide) (by omega), pk_shlN (n := d) _ 0 (by decide) (by omega)]
  rw [show (0 : Int32) ||| nI (a * 2 ^ 24) = nI (a * 2 ^ 24) from by rw [show (0 : Int32) = nI 0 from rfl, nI_or, Nat.zero_or]]
  rw [nI_or2 a 24 (by omega), show a * 2 ^ 24 + b * 2 ^ 16 = (a * 2 ^ 8 + b) * 2 ^ 16 by omega, nI_or2 _ 16 (by omega), show (a * 2 ^ 8 + b) * 2 ^ 16 + c * 2 ^ 8 = ((a * 2 ^ 8 + b) * 2 ^ 8 + c) * 2 ^ 8 by omega, nI_or2 _ 8 (by omega)]
  congr 1; omega
theorem shr_nat {w : Nat} (hw : w < 2 ^ 32) : shrC (nI w) 24 &&& 255 = nI (w / 2 ^ 24 % 2 ^ 8) ∧ shrC (nI w) 16 &&& 255 = nI (w / 2 ^ 16 % 2 ^ 8) ∧ shrC (nI w) 8 &&& 255 = nI (w / 2 ^ 8 % 2 ^ 8) ∧ nI w &&& 255 = nI (w % 2 ^ 8) := by
  have h (k : Nat) (s : Int32) (hs : ((s.toUInt32 &&& Int32.toUInt32 31).toBitVec % 32).toNat = k) : shrC (nI w) s &&& 255 = nI (w / 2 ^ k % 2 ^ 8) := by
    have e : shrC (nI w) s = nI (w / 2 ^ k) := pk_ushrN hw s k hs
    rw [e]
    exact pk_andN (Nat.lt_of_le_of_lt (Nat.div_le_self _ _) hw) 8 (by decide)
  exact ⟨h 24 24 (by decide), h 16 16 (by decide), h 8 8 (by decide), pk_andN hw 8 (by decide)⟩
theorem put4_lo {z : Int32} {L i : Nat} {f : Nat → Int32} (h : i < L) : put4 z L f i = f i := by
  unfold put4
  rw [show ∀ (g : Nat → Int32) (x : Int32), va_up g (L + 1 + 1 + 1) x i = g i from fun g x => if_neg (by omega), show ∀ (g : Nat → Int32) (x : Int32), va_up g (L + 1 + 1) x i = g i from fun g x => if_neg (by omega), show ∀ (g : Nat → Int32) (x : Int32), va_up g (L + 1) x i = g i from fun g x => if_neg (by omega)]
  exact if_neg (by omega)
theorem put4_at {c : Nat → Int32} {L k : Nat} {f : Nat → Int32} (h : ∀ i, i < 4 → ∃ z, z < 128 ∧ c i = nI z) (hk : k < 4) : put4 (W4 (c 0) (c 1) (c 2) (c 3)) L f (L + k) = c k := by
  obtain ⟨z0, h0, e0⟩ := h 0 (by decide)
  obtain ⟨z1, h1, e1⟩ := h 1 (by decide)
  obtain ⟨z2, h2, e2⟩ := h 2 (by decide)
  obtain ⟨z3, h3, e3⟩ := h 3 (by decide)
  have hw := W4_nat h0 h1 h2 h3
  obtain ⟨g0, g1, g2, g3⟩ := shr_nat (w := z0 * 2 ^ 24 + z1 * 2 ^ 16 + z2 * 2 ^ 8 + z3) (by omega)
  rw [e0, e1, e2, e3, hw]
  have d1 : (z0 * 2 ^ 24 + z1 * 2 ^ 16 + z2 * 2 ^ 8 + z3) / 2 ^ 16 = z0 * 2 ^ 8 + z1 := by omega
  have d2 : (z0 * 2 ^ 24 + z1 * 2 ^ 16 + z2 * 2 ^ 8 + z3) / 2 ^ 8 = (z0 * 2 ^ 8 + z1) * 2 ^ 8 + z2 := by omega
  have d3 : z0 * 2 ^ 24 + z1 * 2 ^ 16 + z2 * 2 ^ 8 + z3 = ((z0 * 2 ^ 8 + z1) * 2 ^ 8 + z2) * 2 ^ 8 + z3 := by omega
  unfold put4
  rw [g0, g1, g2, g3, d1, d2, d3]
  clear hw g0 g1 g2 g3 d1 d2 d3
  obtain rfl | rfl | rfl | rfl : k = 0 ∨ k = 1 ∨ k = 2 ∨ k = 3 := by omega
  · rw [e0]; show (if L + 0 = L + 1 + 1 + 1 then _ else if L + 0 = L + 1 + 1 then _ else if L + 0 = L + 1 then _ else if L + 0 = L then _ else _) = _; rw [if_neg (by omega), if_neg (by omega), if_neg (by omega), if_pos (by omega)]; congr 1; omega
  · rw [e1]; show (if L + 1 = L + 1 + 1 + 1 then _ else if L + 1 = L + 1 + 1 then _ else if L + 1 = L + 1 then _ else if L + 1 = L then _ else _) = _; rw [if_neg (by omega), if_neg (by omega), if_pos (by omega)]; congr 1; omega
  · rw [e2]; show (if L + 2 = L + 1 + 1 + 1 then _ else if L + 2 = L + 1 + 1 then _ else if L + 2 = L + 1 then _ else if L + 2 = L then _ else _) = _; rw [if_neg (by omega), if_pos (by omega)]; congr 1; omega
  · rw [e3]; show (if L + 3 = L + 1 + 1 + 1 then _ else if L + 3 = L + 1 + 1 then _ else if L + 3 = L + 1 then _ else if L + 3 = L then _ else _) = _; rw [if_pos (by omega)]; congr 1; omega
theorem app_at {c : Nat → Int32} {t : Nat} {f : Nat → Int32} (h : ∀ i, ∃ z, z < 128 ∧ c i = nI z) : (∀ i, i < t → appC (fvC c 20 0) (fvC c 20 1) (fvC c 20 2) (fvC c 20 3) (fvC c 20 4) t f i = f i) ∧ ∀ i, i < 20 → appC (fvC c 20 0) (fvC c 20 1) (fvC c 20 2) (fvC c 20 3) (fvC c 20 4) t f (t + i) = c i := by
  rw [fvC_20 c 0 (by decide), fvC_20 c 1 (by decide), fvC_20 c 2 (by decide), fvC_20 c 3 (by decide), fvC_20 c 4 (by decide)]
  unfold appC
  refine ⟨fun i hi => ?_, fun i hi => ?_⟩
  · rw [put4_lo (by omega), put4_lo (by omega), put4_lo (by omega), put4_lo (by omega), put4_lo (by omega)]
  · obtain ⟨q, k, hk, rfl⟩ : ∃ q k, k < 4 ∧ i = 4 * q + k := ⟨i / 4, i % 4, by omega, by omega⟩
    obtain rfl | rfl | rfl | rfl | rfl : q = 0 ∨ q = 1 ∨ q = 2 ∨ q = 3 ∨ q = 4 := by omega
    · rw [put4_lo (by omega), put4_lo (by omega), put4_lo (by omega), put4_lo (by omega), show t + (4 * 0 + k) = t + k by omega]
      exact (put4_at (c := fun i => c (4 * 0 + i)) (fun i _ => h _) hk)
    · rw [put4_lo (by omega), put4_lo (by omega), put4_lo (by omega), show t + (4 * 1 + k) = (t + 4) + k by omega]
      exact (put4_at (c := fun i => c (4 * 1 + i)) (fun i _ => h _) hk)
    · rw [put4_lo (by omega), put4_lo (by omega), show t + (4 * 2 + k) = (t + 4 + 4) + k by omega]
      exact (put4_at (c := fun i => c (4 * 2 + i)) (fun i _ => h _) hk)
    · rw [put4_lo (by omega), show t + (4 * 3 + k) = (t + 4 + 4 + 4) + k by omega]
      exact (put4_at (c := fun i => c (4 * 3 + i)) (fun i _ => h _) hk)
    · rw [show t + (4 * 4 + k) = (t + 4 + 4 + 4 + 4) + k by omega]
      exact (put4_at (c := fun i => c (4 * 4 + i)) (fun i _ => h _) hk)
theorem app_all {a : Nat → Int32} {N t : Nat} {fv fE : Nat → Int32} (hfv : fv = fvC (fun i => chN a N (t + i)) 20) (hfE : ∀ i, i < t → fE i = chN a N i) (h : ∀ i, ∃ z, z < 128 ∧ chN a N (t + i) = nI z) : ∀ i, i < t + 20 → appC (fv 0) (fv 1) (fv 2) (fv 3) (fv 4) t fE i = chN a N i := by
  subst hfv
  obtain ⟨h1, h2⟩ := app_at (c := fun i => chN a N (t + i)) (t := t) (f := fE) h
  intro i hi
  by_cases hit : i < t
  · rw [h1 i hit]; exact hfE i hit
  · have h3 := h2 (i - t) (by omega)
    rw [show t + (i - t) = i by omega] at h3
    exact h3
set_option maxHeartbeats 1000000 in
theorem c_ex_app (l : Launch) (hl9 : l.stackTraces = false) (D : va_G) (T : Nat → ClassId) (aK aV : Nat → Nat) (v : Nat → Nat) (B : Nat → Nat → Nat) (O : Nat → Nat → Nat → Int32) (g : CSt) (ln un nx pl : Nat) (f0 f1 f2 : Nat → Int32) (a1 a2 a3 a4 a5 : Int32) (h580 : ln ≤ 580) (sz : Nat) : Met l yL_call wsL_call ({ frames := 10, cells := 4, slots := 24, locals := 215 } : Room) (va_Pc [.ref (v 0), .int (13), .int (a1), .int (a2), .int (a3), .int (a4), .int (a5)] (LWP D T aK aV (WIN T v B O g ln un nx pl f0 f1 f2) sz)) (va_Qi (fun r9 (_ : Unit) => r9 = nI (ln + 20)) (fun _ t => QS D T (va_A (WIN T v B O g ln un nx pl f0 f1 f2) sz) (WIN T v B O g (ln + 20) un nx pl (appC a1 a2 a3 a4 a5 ln f0) f1 f2) t) (va_A (WIN T v B O g ln un nx pl f0 f1 f2) sz)) 4 24 (va_A (WIN T v B O g ln un nx pl f0 f1 f2) sz) := by
  have h := c_call_13 l hl9 D T aK aV v B O g ln un nx pl f0 f1 f2 a1 a2 a3 a4 a5 (by omega) sz
  rw [chkB_n (decide_eq_true h580)] at h
  exact h
set_option maxHeartbeats 1000000 in
theorem c_ex_shr (l : Launch) (hl9 : l.stackTraces = false) (D : va_G) (T : Nat → ClassId) (aK aV : Nat → Nat) (v : Nat → Nat) (B : Nat → Nat → Nat) (O : Nat → Nat → Nat → Int32) (g : CSt) (ln un nx pl : Nat) (f0 f1 f2 : Nat → Int32) (n : Nat) (hn : n ≤ ln) (hln : ln ≤ 600) (sz : Nat) : Met l yL_call__ wsL_call__ ({ frames := 11, cells := 4, slots := 24, locals := 242 } : Room) (va_Pc [.ref (v 0), .int (14), .int (nI n)] (LWP D T aK aV (WIN T v B O g ln un nx pl f0 f1 f2) sz)) (va_Qi (fun r9 (_ : Unit) => r9 = nI n) (fun _ t => QS D T (va_A (WIN T v B O g ln un nx pl f0 f1 f2) sz) (WIN T v B O g n un nx pl f0 f1 f2) t) (va_A (WIN T v B O g ln un nx pl f0 f1 f2) sz)) 4 24 (va_A (WIN T v B O g ln un nx pl f0 f1 f2) sz) := by
  have h := via3 (fun sz => c_call_14 l hl9 D T aK aV v B O g ln un nx pl f0 f1 f2 (nI n) 0 0 0 0 (by omega) sz) sz
  rw [chkB_n (show rg (nI n) 0 (nI ln) = true from rg_okN (a := 0) (Nat.zero_le _) hn (by omega)), nI_clamp (by omega)] at h
  exact h

set_option maxHeartbeats 8000000 in
set_option maxRecDepth 100000 in
theorem c_L_feeds (l : Launch) (hl9 : l.stackTraces = false) (D : va_G) (T : Nat → ClassId) (aK aV : Nat → Nat) (v : Nat → Nat) (B : Nat → Nat → Nat) (O : Nat → Nat → Nat → Int32) (g : CSt) (ln un nx pl : Nat) (f0 f1 f2 : Nat → Int32) (r9s : Nat) (q9s NN : Nat) (aa : Nat → Int32) (N K C nt : Nat) (hOI : OI (O 0) N K C nt) (hNN : NN ≤ 384) (hch : ∀ k, k < NN → ∃ z, z < 128 ∧ aa k = nI z) (sz : Nat) : Met l yL_feeds wsL_feeds ({ frames := 12, cells := 2200, slots := 12800, locals := 264 } : Room) (va_Pc [.ref (v 0), .ref (r9s)] (LWP D T aK aV ((r9s, .inr (10, [.ref q9s, .int 0, .int 0, .int 0])) :: (q9s, .inl (T 3, NN, .inl aa)) :: WIN T v B O g 0 un nx pl f0 f1 f2) sz)) (va_Qi (fun r9 (u : Nat → Int32) => r9 = 1 ∧ ∀ i, i < NN → u i = aa i) (fun u t => QS D T (va_A ((r9s, .inr (10, [.ref q9s, .int 0, .int 0, .int 0])) :: (q9s, .inl (T 3, NN, .inl aa)) :: WIN T v B O g 0 un nx pl f0 f1 f2) sz) (WIN T v B O g NN un nx pl u f1 f2) t) (va_A ((r9s, .inr (10, [.ref q9s, .int 0, .int 0, .int 0])) :: (q9s, .inl (T 3, NN, .inl aa)) :: WIN T v B O g 0 un nx pl f0 f1 f2) sz)) 2200 12800 (va_A ((r9s, .inr (10, [.ref q9s, .int 0, .int 0, .int 0])) :: (q9s, .inl (T 3, NN, .inl aa)) :: WIN T v B O g 0 un nx pl f0 f1 f2) sz) := by
  refine metUi (cc := cL_feeds) (maxL := 5) (ty := .boolean) (by decide) rfl (fun r u h => by rw [h.1]; rfl) (Nat.le_of_ble_eq_true rfl) ?_
  intro p e s m args below meth c Q ls A hx hb hml hown hts hNC hC hP hK hD hA hS hl hret
  have hown : s.vm.findClass RL = some m.cls := hown
  have hl : lv_has ls 5 [(0, .ref (v 0)), (1, .ref (r9s))] := hl
  have k126 := hts (Cond.arrayClass .int) (List.mem_cons_of_mem _ (gT_of mw_126 rfl))
  have hgo : ∀ (H : Heap) (locs : List Loc), va_P D vwCl ((r9s, .inr (10, [.ref q9s, .int 0, .int 0, .int 0])) :: (q9s, .inl (T 3, NN, .inl aa)) :: WIN T v B O g 0 un nx pl f0 f1 f2) H → va_S A s.heap H locs → W p l e ({ frames := 12, cells := 2200, slots := 12800, locals := 264 } : Room) s m args below meth c H locs (0) (0) Q (F0 m 0 ls []) := by
    intro H locs hP hS
    refine lv_iconst (v := 0) hx hb dL_feeds_0 (by decide) ?_
    refine lv_istore_n (lv' := [(2, .int (0)), (0, .ref (v 0)), (1, .ref (r9s))]) hx hb dL_feeds_1 rfl hl (by decide) rfl (fun ls hl => ?_)
    have L2 : ∀ (n9 : Nat) (t9 : Nat) (fE : Nat → Int32) (cb1 sb1 : Nat), (NN + 20 - t9) < n9 → (t9 ≤ NN + 19) → (∀ i, i < t9 → fE i = chN aa NN i) → cb1 ≤ 0 + 0 + 5 * t9 → sb1 ≤ 0 + 0 + 29 * t9 → ∀ (H : Heap) (locs : List Loc) (ls : Array Slot), va_P D vwCl ((r9s, .inr (10, [.ref q9s, .int 0, .int 0, .int 0])) :: (q9s, .inl (T 3, NN, .inl aa)) :: WIN T v B O g t9 un nx pl fE f1 f2) H → va_D A ((r9s, .inr (10, [.ref q9s, .int 0, .int 0, .int 0])) :: (q9s, .inl (T 3, NN, .inl aa)) :: WIN T v B O g t9 un nx pl fE f1 f2) → va_S A s.heap H locs → lv_has ls 5 [(2, .int (nI t9)), (0, .ref (v 0)), (1, .ref (r9s))] → W p l e ({ frames := 12, cells := 2200, slots := 12800, locals := 264 } : Room) s m args below meth c H locs cb1 sb1 Q (F0 m 2 ls []) := by
      intro n9
      induction n9 with
      | zero => intro t9 fE cb1 sb1 hm9; exact absurd hm9 (Nat.not_lt_zero _)
      | succ n9 ih2 =>
        intro t9 fE cb1 sb1 hm9 ht9 hfE hcb1 hsb1 H locs ls hP hD hS hl
        refine lv_iload_n hx hb dL_feeds_2 rfl (lv_at hl 0 rfl) ?_
        refine lv_aload_n hx hb dL_feeds_3 rfl (lv_at hl 2 rfl) ?_
        have hF : STF r9s q9s NN aa nA s H := stf_of hts (fun w hw => List.mem_cons_of_mem _ ((gw_wsJ00 w hw).1)) hK hP 0 1 rfl rfl (((hC.1 0 (by decide)).2.2.2.2.1.kept hS.2.1).narrow (fun _ z => z.elim)) (((hC.1 0 (by decide)).2.2.2.2.2.kept hS.2.1).narrow (fun _ z => z.elim))
        have hrc : ∃ cell : Cell, H[r9s]? = some cell ∧ cell.vm.isStatics = false ∧ s.vm.findClass "java/lang/String" = some cell.cls := by obtain ⟨cell, g1, g2, g3, -⟩ := hF.1; exact ⟨cell, g1, g2, g3⟩
        refine rdBV (As := []) (rest := [.int (nI t9)]) (STF.bl r9s q9s NN aa nA) ⟨hx, hb, hml, hown, hts⟩ (c_J0_length_8abf5 l r9s q9s NN aa) (cwV 0 hts (gC gl_J0_length_8abf5) rfl rfl rfl (by decide +kernel) ⟨Nat.le_of_ble_eq_true rfl, Nat.le_of_ble_eq_true rfl⟩) (fun U hU hv => by rw [hU]; exact hF.moved hv) hrc rfl hl.1 rfl (Nat.le_of_ble_eq_true rfl) ⟨by show _ ≤ 2200; omega, by show _ ≤ 12800; omega⟩ dL_feeds_4 ?_
        refine lv_icmp_ge (tgt := 110) hx hb dL_feeds_7 (by decide) (fun c7 => ?_) (fun c7 => ?_)
        ·
          have c7 : NN ≤ t9 := (nI_leI (a := NN) (b := t9) (by omega) (by omega)).mp c7
          refine lv_aload_n hx hb dL_feeds_110 rfl (lv_at hl 1 rfl) ?_
          refine lv_bipush (v := 14) hx hb dL_feeds_111 (by decide) ?_
          refine lv_aload_n hx hb dL_feeds_113 rfl (lv_at hl 2 rfl) ?_
          have hF : STF r9s q9s NN aa nA s H := stf_of hts (fun w hw => List.mem_cons_of_mem _ ((gw_wsJ00 w hw).1)) hK hP 0 1 rfl rfl (((hC.1 0 (by decide)).2.2.2.2.1.kept hS.2.1).narrow (fun _ z => z.elim)) (((hC.1 0 (by decide)).2.2.2.2.2.kept hS.2.1).narrow (fun _ z => z.elim))
          have hrc : ∃ cell : Cell, H[r9s]? = some cell ∧ cell.vm.isStatics = false ∧ s.vm.findClass "java/lang/String" = some cell.cls := by obtain ⟨cell, g1, g2, g3, -⟩ := hF.1; exact ⟨cell, g1, g2, g3⟩
          refine rdBV (As := []) (rest := [.int (14), .ref (v 0)]) (STF.bl r9s q9s NN aa nA) ⟨hx, hb, hml, hown, hts⟩ (c_J0_length_8abf5 l r9s q9s NN aa) (cwV 0 hts (gC gl_J0_length_8abf5) rfl rfl rfl (by decide +kernel) ⟨Nat.le_of_ble_eq_true rfl, Nat.le_of_ble_eq_true rfl⟩) (fun U hU hv => by rw [hU]; exact hF.moved hv) hrc rfl hl.1 rfl (Nat.le_of_ble_eq_true rfl) ⟨by show _ ≤ 2200; omega, by show _ ≤ 12800; omega⟩ dL_feeds_114 ?_
          refine lcSi (S := Unit) (ws1 := fun _ => ((r9s, .inr (10, [.ref q9s, .int 0, .int 0, .int 0])) :: (q9s, .inl (T 3, NN, .inl aa)) :: WIN T v B O g NN un nx pl fE f1 f2 : va_W)) (wc1 := fun _ => WIN T v B O g NN un nx pl fE f1 f2) (As := [.ref (v 0), .int (14), .int (nI NN)]) (rest := []) ⟨hx, hb, hml, hown, hts⟩ (c_ex_shr l hl9 D T aK aV v B O g t9 un nx pl fE f1 f2 NN (by omega) (by omega) _) (va_cwS 3 hts (gC gl_L_call__) rfl rfl rfl (by decide +kernel) ⟨Nat.le_of_ble_eq_true rfl, Nat.le_of_ble_eq_true rfl⟩) (fun _ => Foc.pre [(r9s, .inr (10, [.ref q9s, .int 0, .int 0, .int 0])), (q9s, .inl (T 3, NN, .inl aa))] _ _) (Foc.pre [(r9s, .inr (10, [.ref q9s, .int 0, .int 0, .int 0])), (q9s, .inl (T 3, NN, .inl aa))] _ _) hC hNC hK hP hD hS hA rfl hl.1 rfl (Nat.le_of_ble_eq_true rfl) ⟨by show _ ≤ 2200; omega, by show _ ≤ 12800; omega⟩ dL_feeds_117 (fun r9 u H locs hr hP hD hS => ?_)
          subst hr
          have hP : va_P D vwCl ((r9s, .inr (10, [.ref q9s, .int 0, .int 0, .int 0])) :: (q9s, .inl (T 3, NN, .inl aa)) :: WIN T v B O g NN un nx pl fE f1 f2) H := hP
          have hD : va_D A ((r9s, .inr (10, [.ref q9s, .int 0, .int 0, .int 0])) :: (q9s, .inl (T 3, NN, .inl aa)) :: WIN T v B O g NN un nx pl fE f1 f2) := hD
          refine lv_aload_n hx hb dL_feeds_120 rfl (lv_at hl 2 rfl) ?_
          have hF : STF r9s q9s NN aa nA s H := stf_of hts (fun w hw => List.mem_cons_of_mem _ ((gw_wsJ00 w hw).1)) hK hP 0 1 rfl rfl (((hC.1 0 (by decide)).2.2.2.2.1.kept hS.2.1).narrow (fun _ z => z.elim)) (((hC.1 0 (by decide)).2.2.2.2.2.kept hS.2.1).narrow (fun _ z => z.elim))
          have hrc : ∃ cell : Cell, H[r9s]? = some cell ∧ cell.vm.isStatics = false ∧ s.vm.findClass "java/lang/String" = some cell.cls := by obtain ⟨cell, g1, g2, g3, -⟩ := hF.1; exact ⟨cell, g1, g2, g3⟩
          refine rdBV (As := []) (rest := [.int (nI NN)]) (STF.bl r9s q9s NN aa nA) ⟨hx, hb, hml, hown, hts⟩ (c_J0_length_8abf5 l r9s q9s NN aa) (cwV 0 hts (gC gl_J0_length_8abf5) rfl rfl rfl (by decide +kernel) ⟨Nat.le_of_ble_eq_true rfl, Nat.le_of_ble_eq_true rfl⟩) (fun U hU hv => by rw [hU]; exact hF.moved hv) hrc rfl hl.1 rfl (Nat.le_of_ble_eq_true rfl) ⟨by show _ ≤ 2200; omega, by show _ ≤ 12800; omega⟩ dL_feeds_121 ?_
          refine lv_icmp_ne (tgt := 131) hx hb dL_feeds_124 (by decide) (fun c124 => ?_) (fun c124 => ?_)
          ·
            exact absurd rfl c124
          ·
            refine lv_iconst (v := 1) hx hb dL_feeds_127 (by decide) ?_
            refine lv_goto (tgt := 132) hx hb dL_feeds_128 (by decide) ?_
            obtain ⟨hP, hD⟩ := wTail (x := [(r9s, .inr (10, [.ref q9s, .int 0, .int 0, .int 0])), (q9s, .inl (T 3, NN, .inl aa))]) hP hD
            exact hret _ _ _ _ _ _ 1 (fE) dL_feeds_132 ⟨rfl, fun i hi => (hfE i (by omega)).trans (if_pos hi)⟩ hP hD hS (by omega) (by omega)
        ·
          have c7 : ¬ NN ≤ t9 := fun h9 => c7 ((nI_leI (a := NN) (b := t9) (by omega) (by omega)).mpr h9)
          refine lv_iconst (v := 5) hx hb dL_feeds_10 (by decide) ?_
          refine newI hx hb k126 hK hP hD hS hA (n := 5) (N' := 5) (by decide) (by decide) (by decide) (by show _ ≤ 2200; omega) (by show _ ≤ 12800; omega) dL_feeds_11 (fun q11 H hP hD hS => ?_)
          obtain ⟨hP, hD⟩ := wFront hP hD
          have hP : va_P D vwCl ((q11, .inl (T 0, 5, .inl (fun _ => 0))) :: (r9s, .inr (10, [.ref q9s, .int 0, .int 0, .int 0])) :: (q9s, .inl (T 3, NN, .inl aa)) :: WIN T v B O g t9 un nx pl fE f1 f2) H := hP
          have hD : va_D A ((q11, .inl (T 0, 5, .inl (fun _ => 0))) :: (r9s, .inr (10, [.ref q9s, .int 0, .int 0, .int 0])) :: (q9s, .inl (T 3, NN, .inl aa)) :: WIN T v B O g t9 un nx pl fE f1 f2) := hD
          refine lv_astore_n (lv' := [(3, .ref (q11)), (2, .int (nI t9)), (0, .ref (v 0)), (1, .ref (r9s))]) hx hb dL_feeds_13 rfl hl (by decide) rfl (fun ls hl => ?_)
          refine lv_iconst (v := 0) hx hb dL_feeds_14 (by decide) ?_
          refine lv_istore (lv' := [(4, .int (0)), (3, .ref (q11)), (2, .int (nI t9)), (0, .ref (v 0)), (1, .ref (r9s))]) hx hb dL_feeds_15 hl (by decide) rfl (fun ls hl => ?_)
          have L17 : ∀ (n9 : Nat) (j : Nat) (fv : Nat → Int32) (cb2 sb2 : Nat), (20 - j) < n9 → (j ≤ 20) → (fv = fvC (fun i => chN aa NN (t9 + i)) j) → cb2 ≤ 0 + 0 + 5 * t9 + 1 + 0 * 0 → sb2 ≤ 0 + 0 + 29 * t9 + 5 + 0 * 0 → ∀ (H : Heap) (locs : List Loc) (ls : Array Slot), va_P D vwCl ((q11, .inl (T 0, 5, .inl fv)) :: (r9s, .inr (10, [.ref q9s, .int 0, .int 0, .int 0])) :: (q9s, .inl (T 3, NN, .inl aa)) :: WIN T v B O g t9 un nx pl fE f1 f2) H → va_D A ((q11, .inl (T 0, 5, .inl fv)) :: (r9s, .inr (10, [.ref q9s, .int 0, .int 0, .int 0])) :: (q9s, .inl (T 3, NN, .inl aa)) :: WIN T v B O g t9 un nx pl fE f1 f2) → va_S A s.heap H locs → lv_has ls 5 [(4, .int (nI j)), (3, .ref (q11)), (2, .int (nI t9)), (0, .ref (v 0)), (1, .ref (r9s))] → W p l e ({ frames := 12, cells := 2200, slots := 12800, locals := 264 } : Room) s m args below meth c H locs cb2 sb2 Q (F0 m 17 ls []) := by
            intro n9
            induction n9 with
            | zero => intro j fv cb2 sb2 hm9; exact absurd hm9 (Nat.not_lt_zero _)
            | succ n9 ih17 =>
              intro j fv cb2 sb2 hm9 hj hfv hcb2 hsb2 H locs ls hP hD hS hl
              refine lv_iload hx hb dL_feeds_17 (lv_at hl 0 rfl) ?_
              refine lv_bipush (v := 20) hx hb dL_feeds_19 (by decide) ?_
              refine lv_icmp_ge (tgt := 74) hx hb dL_feeds_21 (by decide) (fun c21 => ?_) (fun c21 => ?_)
              ·
                have c21 : 20 ≤ j := (nI_leI (a := 20) (b := j) (by omega) (by omega)).mp c21
                have hj20 : j = 20 := by omega
                have hfv9 : fv = fvC (fun i => chN aa NN (t9 + i)) 20 := by rw [hfv, hj20]
                refine lv_aload_n hx hb dL_feeds_74 rfl (lv_at hl 3 rfl) ?_
                refine lv_bipush (v := 13) hx hb dL_feeds_75 (by decide) ?_
                refine lv_aload_n hx hb dL_feeds_77 rfl (lv_at hl 1 rfl) ?_
                refine lv_iconst (v := 0) hx hb dL_feeds_78 (by decide) ?_
                refine aldI hx hb hK hP 0 0 rfl rfl (0) rfl (by omega) (by decide) dL_feeds_79 ?_
                refine lv_aload_n hx hb dL_feeds_80 rfl (lv_at hl 1 rfl) ?_
                refine lv_iconst (v := 1) hx hb dL_feeds_81 (by decide) ?_
                refine aldI hx hb hK hP 0 0 rfl rfl (1) rfl (by omega) (by decide) dL_feeds_82 ?_
                refine lv_aload_n hx hb dL_feeds_83 rfl (lv_at hl 1 rfl) ?_
                refine lv_iconst (v := 2) hx hb dL_feeds_84 (by decide) ?_
                refine aldI hx hb hK hP 0 0 rfl rfl (2) rfl (by omega) (by decide) dL_feeds_85 ?_
                refine lv_aload_n hx hb dL_feeds_86 rfl (lv_at hl 1 rfl) ?_
                refine lv_iconst (v := 3) hx hb dL_feeds_87 (by decide) ?_
                refine aldI hx hb hK hP 0 0 rfl rfl (3) rfl (by omega) (by decide) dL_feeds_88 ?_
                refine lv_aload_n hx hb dL_feeds_89 rfl (lv_at hl 1 rfl) ?_
                refine lv_iconst (v := 4) hx hb dL_feeds_90 (by decide) ?_
                refine aldI hx hb hK hP 0 0 rfl rfl (4) rfl (by omega) (by decide) dL_feeds_91 ?_
                refine lcXi (S := Unit) (ws1 := fun _ => ((q11, .inl (T 0, 5, .inl fv)) :: (r9s, .inr (10, [.ref q9s, .int 0, .int 0, .int 0])) :: (q9s, .inl (T 3, NN, .inl aa)) :: WIN T v B O g (t9 + 20) un nx pl (appC (fv 0) (fv 1) (fv 2) (fv 3) (fv 4) t9 fE) f1 f2 : va_W)) (wc1 := fun _ => WIN T v B O g (t9 + 20) un nx pl (appC (fv 0) (fv 1) (fv 2) (fv 3) (fv 4) t9 fE) f1 f2) (As := [.ref (v 0), .int (13), .int (fv 0), .int (fv 1), .int (fv 2), .int (fv 3), .int (fv 4)]) (rest := []) ⟨hx, hb, hml, hown, hts⟩ (c_ex_app l hl9 D T aK aV v B O g t9 un nx pl fE f1 f2 (fv 0) (fv 1) (fv 2) (fv 3) (fv 4) (by omega) _) (vx_cwSW 7 hts (gC gl_L_call) rfl rfl rfl (by decide +kernel) ⟨Nat.le_of_ble_eq_true rfl, Nat.le_of_ble_eq_true rfl⟩) (fun _ => Foc.pre [(q11, .inl (T 0, 5, .inl fv)), (r9s, .inr (10, [.ref q9s, .int 0, .int 0, .int 0])), (q9s, .inl (T 3, NN, .inl aa))] _ _) (Foc.pre [(q11, .inl (T 0, 5, .inl fv)), (r9s, .inr (10, [.ref q9s, .int 0, .int 0, .int 0])), (q9s, .inl (T 3, NN, .inl aa))] _ _) hC hNC hK hP hD hS hA rfl hl.1 rfl (Nat.le_of_ble_eq_true rfl) ⟨by show _ ≤ 2200; omega, by show _ ≤ 12800; omega⟩ dL_feeds_92 (fun r9 u H locs hr hP hD hS => ?_)
                subst hr
                have hP : va_P D vwCl ((q11, .inl (T 0, 5, .inl fv)) :: (r9s, .inr (10, [.ref q9s, .int 0, .int 0, .int 0])) :: (q9s, .inl (T 3, NN, .inl aa)) :: WIN T v B O g (t9 + 20) un nx pl (appC (fv 0) (fv 1) (fv 2) (fv 3) (fv 4) t9 fE) f1 f2) H := hP
                have hD : va_D A ((q11, .inl (T 0, 5, .inl fv)) :: (r9s, .inr (10, [.ref q9s, .int 0, .int 0, .int 0])) :: (q9s, .inl (T 3, NN, .inl aa)) :: WIN T v B O g (t9 + 20) un nx pl (appC (fv 0) (fv 1) (fv 2) (fv 3) (fv 4) t9 fE) f1 f2) := hD
                obtain ⟨hP, hD⟩ := wTail (x := [(q11, .inl (T 0, 5, .inl fv))]) hP hD
                have hP : va_P D vwCl ((r9s, .inr (10, [.ref q9s, .int 0, .int 0, .int 0])) :: (q9s, .inl (T 3, NN, .inl aa)) :: WIN T v B O g (t9 + 20) un nx pl (appC (fv 0) (fv 1) (fv 2) (fv 3) (fv 4) t9 fE) f1 f2) H := hP
                have hD : va_D A ((r9s, .inr (10, [.ref q9s, .int 0, .int 0, .int 0])) :: (q9s, .inl (T 3, NN, .inl aa)) :: WIN T v B O g (t9 + 20) un nx pl (appC (fv 0) (fv 1) (fv 2) (fv 3) (fv 4) t9 fE) f1 f2) := hD
                refine lv_iload_n hx hb dL_feeds_95 rfl (lv_at hl 2 rfl) ?_
                refine lv_bipush (v := 20) hx hb dL_feeds_96 (by decide) ?_
                refine lv_iadd hx hb dL_feeds_98 ?_
                refine endI (r := nI (t9 + 20)) (nI_add _ _) ?_
                refine lv_icmp_eq (tgt := 104) hx hb dL_feeds_99 (by decide) (fun c99 => ?_) (fun c99 => ?_)
                ·
                  refine lv_iinc (v := nI (t9 + 20)) (lv' := [(2, .int (nI (t9 + 20))), (4, .int (nI j)), (3, .ref (q11)), (0, .ref (v 0)), (1, .ref (r9s))]) hx hb dL_feeds_104 hl (k := 2) rfl (nI_add _ _) (by decide) rfl (fun ls hl => ?_)
                  refine lv_goto (tgt := 2) hx hb dL_feeds_107 (by decide) ?_
                  exact ih2 (t9 + 20) (appC (fv 0) (fv 1) (fv 2) (fv 3) (fv 4) t9 fE) _ _ (by omega) (by omega) (by exact app_all hfv9 hfE (fun i => chN_ok hch _)) (by omega) (by omega) _ _ _ hP hD hS (lv_sub hl [0, 3, 4] rfl)
                ·
                  exact absurd rfl c99
              ·
                have c21 : ¬ 20 ≤ j := fun h9 => c21 ((nI_leI (a := 20) (b := j) (by omega) (by omega)).mpr h9)
                refine lv_aload_n hx hb dL_feeds_24 rfl (lv_at hl 1 rfl) ?_
                refine lv_iload hx hb dL_feeds_25 (lv_at hl 0 rfl) ?_
                refine lv_iconst (v := 4) hx hb dL_feeds_27 (by decide) ?_
                refine lv_idiv hx hb dL_feeds_28 (by decide) ?_
                refine endI (r := nI (j / 4)) (pk_div (a := j) (d := 4) (by omega) (by decide) (by decide)) ?_
                refine lv_dup2_11 hx hb dL_feeds_29 rfl rfl ?_
                refine aldI hx hb hK hP 0 0 rfl rfl (j / 4) rfl (by omega) (by decide) dL_feeds_30 ?_
                have J31 : W p l e ({ frames := 12, cells := 2200, slots := 12800, locals := 264 } : Room) s m args below meth c H locs (cb2) (sb2) Q (F0 m 55 ls [.int (chN aa NN (t9 + j)), .int (fv (j / 4)), .int (nI (j / 4)), .ref (q11)]) := by
                  refine lv_bipush (v := 24) hx hb dL_feeds_55 (by decide) ?_
                  refine lv_bipush (v := 8) hx hb dL_feeds_57 (by decide) ?_
                  refine lv_iload hx hb dL_feeds_59 (lv_at hl 0 rfl) ?_
                  refine lv_iconst (v := 4) hx hb dL_feeds_61 (by decide) ?_
                  refine lv_irem hx hb dL_feeds_62 (by decide) ?_
                  refine endI (r := nI (j % 4)) (pk_rem (a := j) (d := 4) (by omega) (by decide) (by decide)) ?_
                  refine lv_imul hx hb dL_feeds_63 ?_
                  refine endI (r := nI (8 * (j % 4))) (pk_mul _ _) ?_
                  refine lv_isub hx hb dL_feeds_64 ?_
                  refine endI (r := nI (24 - (8 * (j % 4)))) (pk_sub (a := 24) (b := 8 * (j % 4)) (by omega)) ?_
                  refine lv_ishl hx hb dL_feeds_65 ?_
                  refine lv_ior hx hb dL_feeds_66 ?_
                  refine astI hx hb hK hP hD hS 0 0 rfl rfl (j / 4) rfl (by omega) (by decide) dL_feeds_67 (fun H locs hP hD hS => ?_)
                  have hP : va_P D vwCl ((q11, .inl (T 0, 5, .inl (va_up fv (j / 4) ((fv (j / 4)) ||| ((chN aa NN (t9 + j)) <<< ((nI (24 - (8 * (j % 4)))) &&& 31)))))) :: (r9s, .inr (10, [.ref q9s, .int 0, .int 0, .int 0])) :: (q9s, .inl (T 3, NN, .inl aa)) :: WIN T v B O g t9 un nx pl fE f1 f2) H := hP
                  have hD : va_D A ((q11, .inl (T 0, 5, .inl (va_up fv (j / 4) ((fv (j / 4)) ||| ((chN aa NN (t9 + j)) <<< ((nI (24 - (8 * (j % 4)))) &&& 31)))))) :: (r9s, .inr (10, [.ref q9s, .int 0, .int 0, .int 0])) :: (q9s, .inl (T 3, NN, .inl aa)) :: WIN T v B O g t9 un nx pl fE f1 f2) := hD
                  refine lv_iinc (v := nI (j + 1)) (lv' := [(4, .int (nI (j + 1))), (3, .ref (q11)), (2, .int (nI t9)), (0, .ref (v 0)), (1, .ref (r9s))]) hx hb dL_feeds_68 hl (k := 0) rfl (nI_add _ _) (by decide) rfl (fun ls hl => ?_)
                  refine lv_goto (tgt := 17) hx hb dL_feeds_71 (by decide) ?_
                  exact ih17 (j + 1) (va_up fv (j / 4) ((fv (j / 4)) ||| ((chN aa NN (t9 + j)) <<< ((nI (24 - (8 * (j % 4)))) &&& 31)))) _ _ (by omega) (by omega) (by rw [hfv]; rfl) (by omega) (by omega) _ _ _ hP hD hS (lv_sub hl [0, 1, 2, 3, 4] rfl)
                refine lv_iload_n hx hb dL_feeds_31 rfl (lv_at hl 2 rfl) ?_
                refine lv_iload hx hb dL_feeds_32 (lv_at hl 0 rfl) ?_
                refine lv_iadd hx hb dL_feeds_34 ?_
                refine endI (r := nI (t9 + j)) (nI_add _ _) ?_
                refine lv_aload_n hx hb dL_feeds_35 rfl (lv_at hl 4 rfl) ?_
                have hF : STF r9s q9s NN aa nA s H := stf_of hts (fun w hw => List.mem_cons_of_mem _ ((gw_wsJ00 w hw).1)) hK hP 1 2 rfl rfl (((hC.1 0 (by decide)).2.2.2.2.1.kept hS.2.1).narrow (fun _ z => z.elim)) (((hC.1 0 (by decide)).2.2.2.2.2.kept hS.2.1).narrow (fun _ z => z.elim))
                have hrc : ∃ cell : Cell, H[r9s]? = some cell ∧ cell.vm.isStatics = false ∧ s.vm.findClass "java/lang/String" = some cell.cls := by obtain ⟨cell, g1, g2, g3, -⟩ := hF.1; exact ⟨cell, g1, g2, g3⟩
                refine rdBV (As := []) (rest := [.int (nI (t9 + j)), .int (fv (j / 4)), .int (nI (j / 4)), .ref (q11)]) (STF.bl r9s q9s NN aa nA) ⟨hx, hb, hml, hown, hts⟩ (c_J0_length_8abf5 l r9s q9s NN aa) (cwV 0 hts (gC gl_J0_length_8abf5) rfl rfl rfl (by decide +kernel) ⟨Nat.le_of_ble_eq_true rfl, Nat.le_of_ble_eq_true rfl⟩) (fun U hU hv => by rw [hU]; exact hF.moved hv) hrc rfl hl.1 rfl (Nat.le_of_ble_eq_true rfl) ⟨by show _ ≤ 2200; omega, by show _ ≤ 12800; omega⟩ dL_feeds_36 ?_
                refine lv_icmp_ge (tgt := 53) hx hb dL_feeds_39 (by decide) (fun c39 => ?_) (fun c39 => ?_)
                ·
                  have c39 : NN ≤ (t9 + j) := (nI_leI (a := NN) (b := (t9 + j)) (by omega) (by omega)).mp c39
                  refine lv_bipush (v := 32) hx hb dL_feeds_53 (by decide) ?_
                  refine endI (r := chN aa NN (t9 + j)) (by first | exact (if_pos (by omega)).symm | exact (if_neg (by omega)).symm) ?_
                  exact J31
                ·
                  have c39 : ¬ NN ≤ (t9 + j) := fun h9 => c39 ((nI_leI (a := NN) (b := (t9 + j)) (by omega) (by omega)).mpr h9)
                  refine lv_aload_n hx hb dL_feeds_42 rfl (lv_at hl 4 rfl) ?_
                  refine lv_iload_n hx hb dL_feeds_43 rfl (lv_at hl 2 rfl) ?_
                  refine lv_iload hx hb dL_feeds_44 (lv_at hl 0 rfl) ?_
                  refine lv_iadd hx hb dL_feeds_46 ?_
                  refine endI (r := nI (t9 + j)) (nI_add _ _) ?_
                  have hF : STF r9s q9s NN aa nA s H := stf_of hts (fun w hw => List.mem_cons_of_mem _ ((gw_wsJ00 w hw).1)) hK hP 1 2 rfl rfl (((hC.1 0 (by decide)).2.2.2.2.1.kept hS.2.1).narrow (fun _ z => z.elim)) (((hC.1 0 (by decide)).2.2.2.2.2.kept hS.2.1).narrow (fun _ z => z.elim))
                  have hrc : ∃ cell : Cell, H[r9s]? = some cell ∧ cell.vm.isStatics = false ∧ s.vm.findClass "java/lang/String" = some cell.cls := by obtain ⟨cell, g1, g2, g3, -⟩ := hF.1; exact ⟨cell, g1, g2, g3⟩
                  refine rdBV (As := [.int (nI (t9 + j))]) (rest := [.int (fv (j / 4)), .int (nI (j / 4)), .ref (q11)]) (STF.bl r9s q9s NN aa nA) ⟨hx, hb, hml, hown, hts⟩ (c_J0_charAt_5068e l r9s q9s NN aa (t9 + j) (by omega) (by omega) (hch _ (by omega))) (cwV 1 hts (gC gl_J0_charAt_5068e) rfl rfl rfl (by decide +kernel) ⟨Nat.le_of_ble_eq_true rfl, Nat.le_of_ble_eq_true rfl⟩) (fun U hU hv => by rw [hU]; exact hF.moved hv) hrc rfl hl.1 rfl (Nat.le_of_ble_eq_true rfl) ⟨by show _ ≤ 2200; omega, by show _ ≤ 12800; omega⟩ dL_feeds_47 ?_
                  refine lv_goto (tgt := 55) hx hb dL_feeds_50 (by decide) ?_
                  refine endI (r := chN aa NN (t9 + j)) (by first | exact (if_pos (by omega)).symm | exact (if_neg (by omega)).symm) ?_
                  exact J31
          exact L17 _ 0 (fun _ => 0) _ _ (Nat.lt_succ_self _) (by omega) (by rfl) (by omega) (by omega) _ _ _ hP hD hS (lv_sub hl [0, 1, 2, 3, 4] rfl)
    exact L2 _ 0 f0 _ _ (Nat.lt_succ_self _) (by omega) (by intro i hi; omega) (by omega) (by omega) _ _ _ hP hD hS (lv_sub hl [0, 1, 2] rfl)
  exact hgo _ _ hP hS
