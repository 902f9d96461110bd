/-! load's answers alike -/
section LD
variable {O : Nat → Nat → Nat → Int32} {g : CSt} {ln un nx pl : Nat} {f0 f1 f2 : Nat → Int32} {y : Nat → Nat → Int32}
theorem enc_0 (Y : Nat → Nat → Int32) (p : PSt) {i : Nat} (h2 : i ≠ 2) (h4 : i < 4 ∨ 9 ≤ i) : encY Y p 0 i = Y 0 i := by
  unfold encY
  rw [yS_0, if_neg h2, yS_0, if_neg (by omega), yS_0, if_neg (by omega), yS_0, if_neg (by omega), yS_0, if_neg (by omega), yS_0, if_neg (by omega)]
theorem enc_2 (Y : Nat → Nat → Int32) (p : PSt) : encY Y p 0 2 = p.2.2.2.2.2.2 := by
  unfold encY
  rw [yS_0, if_pos rfl]
theorem enc_k (Y : Nat → Nat → Int32) (p : PSt) {k : Nat} (hk : k ≠ 0) : encY Y p k = Y k := by
  unfold encY
  rw [yS_row _ _ _ _ hk, yS_row _ _ _ _ hk, yS_row _ _ _ _ hk, yS_row _ _ _ _ hk, yS_row _ _ _ _ hk, yS_row _ _ _ _ hk]
theorem loadY_0 {i : Nat} : loadY y 0 i = if i = 3 then 0 else y 0 i := by
  unfold loadY
  rw [yS_0, va_up_ne _ _ (by decide)]
theorem loadY_2 : loadY y 2 = zeroD (y 2) := by
  unfold loadY
  rw [yS_row _ _ _ _ (by decide), va_up_at]
theorem loadY_k {k : Nat} (hk : k ≠ 0) (h2 : k ≠ 2) : loadY y k = y k := by
  unfold loadY
  rw [yS_row _ _ _ _ hk, va_up_ne _ _ h2]
theorem start_PO {f f' : Nat → Int32} {L : Nat} (hf : ∀ k, k < L → f' k = f k) (g : CSt) (a b c : Int32) (w : Int64) : PO f L (rd0 f L g) (tokP f' L (0, a, b, c, w, false, -1)) := by
  refine ⟨rfl, rfl, rfl, 0, Nat.zero_le _, rfl, rfl, rfl, ?_, ?_, ?_, ?_, ?_⟩
  · show (tkR f' L 0).2.1 = _; rw [tkR_congr hf (Nat.zero_le _)]
  · show nI (tkR f' L 0).1 = _; rw [tkR_congr hf (Nat.zero_le _)]
  · show (tkR f' L 0).2.2.1 = _; rw [tkR_congr hf (Nat.zero_le _)]
  · show (tkR f' L 0).2.2.2.1 = _; rw [tkR_congr hf (Nat.zero_le _)]
  · show (tkR f' L 0).2.2.2.2 = _; rw [tkR_congr hf (Nat.zero_le _)]
theorem clear2 (f : Nat → Int32) {k : Nat} (hk : k < 2) : iter (fun k f => va_up f k 0) 2 0 f k = 0 := by
  rw [zeroD_at, if_pos (by omega)]
theorem load_bad {Z : Nat → Nat → Int32} {O1 : Nat → Nat → Nat → Int32} {g1 : CSt} {q : Int32} (h : GI O g ln un nx pl f0 f1 f2 y) (hO : ∀ j, j ≠ 2 → O1 j = O j) (z0 : ∀ i, i ≠ 2 → i ≠ 3 → (i < 4 ∨ 9 ≤ i) → Z 0 i = y 0 i) (z2 : Z 0 2 = q) (zk : ∀ k, k ≠ 0 → k ≠ 2 → Z k = y k) (hE : GE g1 q) : GI O1 g1 0 un nx pl f0 f1 f2 (yS (yS Z 1 0) 3 1) := by
  obtain ⟨h1, h2, h3, h4, h5, h6⟩ := h
  have rk : ∀ k, k ≠ 0 → k ≠ 2 → (yS (yS Z 1 0) 3 1) k = y k := fun k hk hk2 => by rw [yS_row _ _ _ _ hk, yS_row _ _ _ _ hk, zk k hk hk2]
  have r0 : ∀ i, i ≠ 1 → i ≠ 3 → (yS (yS Z 1 0) 3 1) 0 i = Z 0 i := fun i h1 h3 => by rw [yS_0, if_neg h3, yS_0, if_neg h1]
  refine ⟨?_, ?_, ?_, ?_, ?_, ?_⟩
  · rw [rk 1 (by decide) (by decide), hO 0 (by decide)]; exact h1
  · rw [rk 4 (by decide) (by decide), r0 0 (by decide) (by decide), z0 0 (by decide) (by decide) (by decide)]
    exact h2.cong (fun j hj1 hj2 => hO j (by omega))
  · rw [rk 5 (by decide) (by decide), rk 6 (by decide) (by decide)]
    exact h3.cong (fun j hj1 hj2 => hO j (by omega))
  · rw [rk 7 (by decide) (by decide), yS_0, if_neg (by decide), yS_0, if_pos rfl]
    exact ⟨Nat.zero_le _, nI_0.symm, fun k hk => absurd hk (Nat.not_lt_zero _)⟩
  · rw [r0 2 (by decide) (by decide), z2]; exact hE
  · rw [rk 8 (by decide) (by decide), r0 9 (by decide) (by decide), z0 9 (by decide) (by decide) (by decide)]; exact h6
theorem load_good {Z : Nat → Nat → Int32} {O1 : Nat → Nat → Nat → Int32} {g1 : CSt} {q : Int32} {R1 R6 : Nat → Int32} (h : GI O g ln un nx pl f0 f1 f2 y) (hM : MT (O1 0) R1) (hR : ∀ k, k < 2 → R6 k = 0) (z0 : ∀ i, i ≠ 2 → i ≠ 3 → (i < 4 ∨ 9 ≤ i) → Z 0 i = y 0 i) (z2 : Z 0 2 = q) (zk : ∀ k, k ≠ 0 → k ≠ 2 → Z k = y k) (hE : GE g1 q) : GI O1 g1 0 0 nx pl f0 f1 (iter (fun k f => va_up f k 0) 2 0 f2) (yS (yS (va_up (va_up Z 1 R1) 6 R6) 1 0) 0 0) := by
  obtain ⟨h1, h2, h3, h4, h5, h6⟩ := h
  have rk : ∀ k, k ≠ 0 → (yS (yS (va_up (va_up Z 1 R1) 6 R6) 1 0) 0 0) k = va_up (va_up Z 1 R1) 6 R6 k := fun k hk => by rw [yS_row _ _ _ _ hk, yS_row _ _ _ _ hk]
  have r0 : ∀ i, i ≠ 1 → i ≠ 0 → (yS (yS (va_up (va_up Z 1 R1) 6 R6) 1 0) 0 0) 0 i = Z 0 i := fun i h1 h3 => by rw [yS_0, if_neg h3, yS_0, if_neg h1, va_up_ne _ _ (by decide), va_up_ne _ _ (by decide)]
  refine ⟨?_, ?_, ?_, ?_, ?_, ?_⟩
  · rw [rk 1 (by decide), va_up_ne _ _ (by decide), va_up_at]; exact hM
  · rw [yS_0, if_pos rfl]
    exact ⟨nI_0.symm, Nat.zero_le _, h2.2.2.1, fun d hd => absurd hd (Nat.not_lt_zero _)⟩
  · rw [rk 6 (by decide), va_up_at]
    intro k hk
    rw [hR k hk, clear2 f2 hk]
    exact ⟨rfl, fun q => absurd rfl q⟩
  · rw [yS_0, if_neg (by decide), yS_0, if_pos rfl]
    exact ⟨Nat.zero_le _, nI_0.symm, fun k hk => absurd hk (Nat.not_lt_zero _)⟩
  · rw [r0 2 (by decide) (by decide), z2]; exact hE
  · rw [rk 8 (by decide), va_up_ne _ _ (by decide), va_up_ne _ _ (by decide), zk 8 (by decide) (by decide), r0 9 (by decide) (by decide), z0 9 (by decide) (by decide) (by decide)]; exact h6
theorem st_load (h : GI O g ln un nx pl f0 f1 f2 y) (w : Int64) : STEP (chkB (!(rd5 f0 ln (O 2, g)).2.2.2.1) "java/lang/IllegalArgumentException") "java/lang/IllegalArgumentException" (((rd4 f0 ln (O 2, g)).2.1 0 7).toInt64) (if (loadQ (loadY y) w ln).2.2.2.2.2.2.1 then 0 else rLay (loadZ (loadY y) w ln 2) 0 0 (loadZ (loadY y) w ln 1) 6).toInt64 ((loadR y w ln) 0 3) (GI (va_up (va_up O 2 ((rd4 f0 ln (O 2, g)).2.1)) 0 ((rd4 f0 ln (O 2, g)).2.1)) (rd5 f0 ln (O 2, g)) 0 0 nx pl f0 f1 (iter (fun k f => va_up f k 0) 2 0 f2) (loadR y w ln)) (GI (va_up O 2 ((rd4 f0 ln (O 2, g)).2.1)) (rd5 f0 ln (O 2, g)) 0 un nx pl f0 f1 f2 (loadR y w ln)) := by
  obtain ⟨b1, b2, b3⟩ := h.2.2.2.1
  have hf : ∀ k, k < ln → y 7 k = f0 k := fun k hk => (b3 k hk).1
  have eQ : loadQ (loadY y) w ln = txR (y 7) ln (zeroD (y 2)) (tokP (y 7) ln (0, loadY y 0 5, loadY y 0 6, loadY y 0 7, w, false, -1)) := by
    unfold loadQ
    rw [loadY_k (k := 7) (by decide) (by decide), loadY_2]
  have key := read_R (o := O 2) (g := g) b1 hf (fun i hi => zeroD_0 (r := y 2) hi) (start_PO hf g (loadY y 0 5) (loadY y 0 6) (loadY y 0 7) w)
  rw [← eQ] at key
  have eZ : loadZ (loadY y) w ln = encY (va_up (loadY y) 2 (loadQ (loadY y) w ln).1) (loadQ (loadY y) w ln).2 := by unfold loadZ; rfl
  have hw : ∀ b, (loadQ (loadY y) w ln).2.2.2.2.2.2.1 = b → loadR y w ln = if b then yS (yS (loadZ (loadY y) w ln) 1 0) 3 1 else yS (yS (va_up (va_up (loadZ (loadY y) w ln) 1 (rLay (loadZ (loadY y) w ln 2) 0 0 (loadZ (loadY y) w ln 1))) 6 (iter (fun k f => va_up f k 0) 2 0 (loadZ (loadY y) w ln 6))) 1 0) 0 0 := by
    intro b hb
    cases b with
    | true => rw [loadR_w rfl rfl hb, if_pos rfl]
    | false => rw [loadR_g rfl rfl hb, if_neg (by decide)]
  generalize loadR y w ln = R at hw ⊢
  generalize loadZ (loadY y) w ln = Z at eZ hw ⊢
  generalize loadQ (loadY y) w ln = Q at key eZ hw ⊢
  generalize (rd4 f0 ln (O 2, g)).2.1 = o4 at key ⊢
  generalize rd5 f0 ln (O 2, g) = g5 at key ⊢
  have z0 : ∀ i, i ≠ 2 → i ≠ 3 → (i < 4 ∨ 9 ≤ i) → Z 0 i = y 0 i := fun i h2 h3 h4 => by rw [eZ, enc_0 _ _ h2 h4, va_up_ne _ _ (by decide), loadY_0, if_neg h3]
  have z3 : Z 0 3 = 0 := by rw [eZ, enc_0 _ _ (by decide) (by decide), va_up_ne _ _ (by decide), loadY_0, if_pos rfl]
  have z2 : Z 0 2 = Q.2.2.2.2.2.2.2 := by rw [eZ, enc_2]
  have zk : ∀ k, k ≠ 0 → k ≠ 2 → Z k = y k := fun k hk h2 => by rw [eZ, enc_k _ _ hk, va_up_ne _ _ h2, loadY_k hk h2]
  have zd : Z 2 = Q.1 := by rw [eZ, enc_k _ _ (by decide), va_up_at]
  rcases key with ⟨k1, k2, k3, k, hk, k4⟩ | ⟨⟨k1, k2, k3, -⟩, N, K, C, hv⟩
  · have hR := hw true k2
    rw [if_pos rfl] at hR
    rw [k1, hR]
    refine STEP.bad ?_ (load_bad h (fun j hj => va_up_ne _ _ hj) z0 z2 zk (Or.inl ⟨k1, k3, k, hk, k4⟩))
    rw [yS_0, if_pos rfl]; rfl
  · have hR := hw false k2
    rw [if_neg (by decide)] at hR
    rw [k1, hR, k2]
    have hlay : EqR Q.1 (rLay (Z 2) 0 0 (Z 1)) := fun i hi => by rw [rLay_0 hi, zd]
    have hv' := hv.eqr hlay
    have e6 : o4 0 7 = rLay (Z 2) 0 0 (Z 1) 6 := hv'.oi.1.trans hv'.r6.symm
    generalize rLay (Z 2) 0 0 (Z 1) = R1 at hv' e6 ⊢
    refine STEP.ok ?_ ?_ (load_good h ?_ (fun k hk => clear2 _ hk) z0 z2 zk (Or.inr ⟨k1, k3⟩))
    · rw [yS_0, if_neg (by decide), yS_0, if_neg (by decide), va_up_ne _ _ (by decide), va_up_ne _ _ (by decide)]; exact z3
    · rw [e6]; rfl
    · rw [va_up_at]
      exact ⟨N, K, C, 0, hv', by decide⟩
end LD
