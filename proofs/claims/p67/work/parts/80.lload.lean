/-! load, of a window's text -/
theorem dg_128 {v : Nat} (hv : v ≤ 99) : ∀ c ∈ dgL v, c < 128 := fun c hc => by have := dgL_dig hv c hc; omega
theorem TXOK.mem {L : List Nat} (h : TXOK L) : ∀ c ∈ L, c < 128 := by
  obtain ⟨d1, d2, d3, cl, ck, cp, ⟨⟨w1, w2⟩, w3, w4, ⟨w5, w6, w7⟩, ⟨w8, w9⟩, w10, w11⟩, rfl⟩ := h
  rw [TX_eq]
  have h32 : ∀ c ∈ [32], c < 128 := by decide
  have hck : ∀ c ∈ ckT ck, c < 128 := fun c hc => by
    obtain ⟨z, hz, hc⟩ := List.mem_flatMap.mp hc
    obtain ⟨z1, z2, z3⟩ := w9 z hz
    rw [jL2] at hc
    exact (List.forall_mem_append.mpr ⟨by decide, List.forall_mem_append.mpr ⟨dg_128 (by omega), List.forall_mem_cons.mpr ⟨by decide, List.forall_mem_append.mpr ⟨dg_128 (by omega), by decide⟩⟩⟩⟩ : ∀ c ∈ _, c < 128) c hc
  have hcp : ∀ c ∈ cpT cp, c < 128 := fun c hc => by
    obtain ⟨z, hz, hc⟩ := List.mem_flatMap.mp hc
    obtain ⟨k, hk⟩ := List.mem_iff_getElem?.mp hz
    obtain ⟨z1, z2, z3, z4, z5⟩ := w11 k z hk
    have hk9 : k < cp.length := (List.getElem?_eq_some_iff.mp hk).1
    rw [jL7] at hc
    exact (List.forall_mem_append.mpr ⟨by decide, List.forall_mem_append.mpr ⟨dg_128 (by omega), List.forall_mem_cons.mpr ⟨by decide, List.forall_mem_append.mpr ⟨fun c hc => by have := (jL_sm z3).2 c hc; omega, List.forall_mem_cons.mpr ⟨by decide, List.forall_mem_append.mpr ⟨dg_128 (by omega), by decide⟩⟩⟩⟩⟩⟩ : ∀ c ∈ _, c < 128) c hc
  have hcl : ∀ c ∈ clT cl, c < 128 := fun c hc => by
    obtain ⟨z, hz, hc⟩ := List.mem_flatMap.mp hc
    exact (List.forall_mem_cons.mpr ⟨by decide, dg_128 (by have := w7 z hz; omega)⟩ : ∀ c ∈ _, c < 128) c hc
  refine List.forall_mem_append.mpr ⟨by decide, List.forall_mem_append.mpr ⟨h32, List.forall_mem_append.mpr ⟨dg_128 (by omega), List.forall_mem_append.mpr ⟨h32, List.forall_mem_append.mpr ⟨dg_128 (by omega), List.forall_mem_append.mpr ⟨h32, List.forall_mem_append.mpr ⟨dg_128 (by omega), List.forall_mem_cons.mpr ⟨by decide, List.forall_mem_append.mpr ⟨by decide, List.forall_mem_append.mpr ⟨hcl, List.forall_mem_cons.mpr ⟨by decide, List.forall_mem_append.mpr ⟨hck, hcp⟩⟩⟩⟩⟩⟩⟩⟩⟩⟩⟩⟩
theorem TXOK.al {L : List Nat} (h : TXOK L) : AL L := AL_of (fun j hj => by
  rw [List.getD_eq_getElem?_getD, List.getElem?_eq_getElem hj]
  exact h.mem _ (List.getElem_mem hj))
abbrev S5 : Type := (Nat → Nat → Nat → Int32) × CSt × (Nat → Int32)
theorem zero_two {f2 : Nat → Int32} : ∀ k, k < 2 → iter (fun k f => va_up f k 0) 2 0 f2 k = 0 := by
  intro k hk
  obtain rfl | rfl : k = 0 ∨ k = 1 := by omega
  · rfl
  · rfl
set_option maxHeartbeats 1000000 in
theorem c_ex_load (l : Launch) (hl9 : l.stackTraces = false) (D : va_G) (T : Nat → ClassId) (aK aV : Nat → Nat) (v : Nat → Nat) (B : Nat → Nat → Nat) (O : Nat → Nat → Nat → Int32) (g : CSt) (ln un nx pl : Nat) (f0 f1 f2 : Nat → Int32) {L : List Nat} (hT : TXOK L) (hL : L.length = ln) (hln : ln ≤ 600) (hf : ∀ i, i < L.length → f0 i = nI (L.getD i 0)) (hnx : nx < 8) (sz : Nat) : Met l yL_call__ wsL_call__ ({ frames := 11, cells := 4, slots := 24, locals := 242 } : Room) (va_Pc [.ref (v 0), .int (12), .int (0)] (LWP D T aK aV (WIN T v B O g ln un nx pl f0 f1 f2) sz)) (va_Qi (fun r9 (u : S5) => ∃ N K C, r9 = nI N ∧ OV (u.1 0) N K C 0 ∧ u.2.1.2.2.2.1 = false ∧ GW u.1 0 nx u.2.2) (fun u t => QS D T (va_A (WIN T v B O g ln un nx pl f0 f1 f2) sz) (WIN T v B u.1 u.2.1 0 0 nx pl f0 f1 u.2.2) t) (va_A (WIN T v B O g ln un nx pl f0 f1 f2) sz)) 4 24 (va_A (WIN T v B O g ln un nx pl f0 f1 f2) sz) := by
  have hal := hT.al
  have hm1 : ∀ i, i < ln → ¬ f0 i = -1 := fun i hi => by
    rw [hf i (by omega)]; exact nI_nneg (by have := hal i; omega) (by decide)
  obtain ⟨d1, d2, d3, cl, ck, cp, hw, rfl⟩ := hT
  have hA : AT f0 ln 0 (TX d1 d2 d3 cl ck cp) := ⟨by omega, fun i hi => by rw [Nat.zero_add]; exact hf i hi⟩
  obtain ⟨h1, h2⟩ := read_ok hw hA (O 2) g
  have h := via3 (fun sz => c_call_12 l hl9 D T aK aV v B O g ln un nx pl f0 f1 f2 0 0 0 0 0 hln hm1 sz) sz
  have hcd : chkB (!(rd5 f0 ln (O 2, g)).2.2.2.1) "java/lang/IllegalArgumentException" = none := chkB_n (by rw [h1]; rfl)
  rw [hcd] at h
  refine met_ex (S := S5) (wu := fun u => WIN T v B u.1 u.2.1 0 0 nx pl f0 f1 u.2.2) (va_up (va_up O 2 ((rd4 f0 ln (O 2, g)).2.1)) 0 ((rd4 f0 ln (O 2, g)).2.1), rd5 f0 ln (O 2, g), iter (fun k f => va_up f k 0) 2 0 f2) h rfl ?_
  refine ⟨cp.length, ck.length, cl.length, h2.oi.1, h2, h1, by omega, hnx, ⟨_, _, _, _, by decide, h2⟩, fun i hi => absurd hi (Nat.not_lt_zero i), fun k hk hz => absurd (zero_two k hk) hz⟩
