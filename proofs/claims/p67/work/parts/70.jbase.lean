/-! the JDK's StringBuilder: what its methods find, texts as lists, calls -/
def BL (L : List Nat) (a : Nat → Int32) : Prop := ∀ i, i < L.length → a i = nI (L.getD i 0)
def AL (L : List Nat) : Prop := ∀ i, L.getD i 0 < 128
abbrev SBU : Type := Nat × Nat × (Nat → Int32)
def SBI (L : List Nat) (u : SBU) : Prop := L.length ≤ u.2.1 ∧ u.2.1 ≤ 798 ∧ BL L u.2.2 ∧ sb_Fit u.2.2
def SBW (T : Nat → ClassId) (b : Nat) (u : SBU) (n : Nat) : va_W := [(b, .inr (11, [.ref u.1, .int 0, .int 0, .int (nI n)])), (u.1, .inl (T 3, u.2.1, .inl u.2.2))]
def jlT : List (Nat × String × List Nat) := [(179, "moon ", [109, 111, 111, 110, 32]), (190, ";clouds", [59, 99, 108, 111, 117, 100, 115]), (196, "clerk ", [99, 108, 101, 114, 107, 32]), (198, "glare", [103, 108, 97, 114, 101]), (200, "gloom", [103, 108, 111, 111, 109]), (202, "tide", [116, 105, 100, 101]), (204, "face", [102, 97, 99, 101]), (206, "complaint ", [99, 111, 109, 112, 108, 97, 105, 110, 116, 32])]
def jlO (i : Nat) : Nat × String × List Nat := jlT.getD i (0, "", [])
def jL (i : Nat) : List Nat := (jlO i).2.2
theorem jL_ok : ∀ i, i < 8 → (jL i).length ≤ 10 ∧ ∀ j, j < (jL i).length → (jL i).getD j 0 < 128 := by decide
def jF (L : List Nat) (j : Nat) : Int32 := nI (L.getD j 0)
abbrev JV : Type := (Nat → Nat) × (Nat → Nat) × Nat × Nat
def JX (x : JV) (A : Nat → Prop) (U : State) (H : Heap) : Prop :=
  (∀ i, i < 8 → STF (x.1 i) (x.2.1 i) (jL i).length (jF (jL i)) A U H) ∧ (∀ i, i < 8 → vk_R RL (jlO i).1 (jlO i).2.1 (x.1 i) U) ∧
  (va_Z "java/lang/Integer" "DigitOnes" "[B" (.ref x.2.2.1) A U H ∧ va_T .byte x.2.2.1 100 (fun j => .int (nI (48 + j % 10))) A U H) ∧
  (va_Z "java/lang/Integer" "DigitTens" "[B" (.ref x.2.2.2) A U H ∧ va_T .byte x.2.2.2 100 (fun j => .int (nI (48 + j / 10))) A U H) ∧ va_Nw (.castable "[B" "java/lang/Cloneable") U ∧ va_AO RJ0 U
theorem JX.kept {x : JV} {A : Nat → Prop} {U : State} {H H1 : Heap} (h : JX x A U H) (hq : ∀ a : Nat, a < H.size → ¬ A a → H1[a]? = H[a]?) : JX x A U H1 :=
  ⟨fun i hi => (h.1 i hi).kept hq, h.2.1, ⟨h.2.2.1.1.kept hq, h.2.2.1.2.kept hq⟩, ⟨h.2.2.2.1.1.kept hq, h.2.2.2.1.2.kept hq⟩, h.2.2.2.2⟩
theorem JX.narrow {x : JV} {A B : Nat → Prop} {U : State} {H : Heap} (h : JX x A U H) (hAB : ∀ q, B q → A q) : JX x B U H :=
  ⟨fun i hi => (h.1 i hi).narrow hAB, h.2.1, ⟨h.2.2.1.1.narrow hAB, h.2.2.1.2.narrow hAB⟩, ⟨h.2.2.2.1.1.narrow hAB, h.2.2.2.1.2.narrow hAB⟩, h.2.2.2.2⟩
theorem JX.warm {x : JV} {A : Nat → Prop} {s U : State} {H : Heap} (hW : s.WarmedH U.vm) (h : JX x A s H) : JX x A U H :=
  ⟨fun i hi => (h.1 i hi).moved hW.alike, fun i hi => (h.2.1 i hi).warm hW, ⟨va_Z.moved hW.alike h.2.2.1.1, va_T.moved hW.alike h.2.2.1.2⟩, ⟨va_Z.moved hW.alike h.2.2.2.1.1, va_T.moved hW.alike h.2.2.2.1.2⟩, ⟨va_Nw.warmC hW h.2.2.2.2.1, h.2.2.2.2.2.moved hW.alike⟩⟩
def JP (D : va_G) (T : Nat → ClassId) (x : JV) (ws : va_W) (sz : Nat) (U : State) : Prop := PS D T ws sz U ∧ JX x (va_A ws sz) U U.heap
theorem JP.blind (as : List Value) (D : va_G) (T : Nat → ClassId) (x : JV) (ws : va_W) (sz : Nat) : FrameBlind (va_Pc as (JP D T x ws sz)) := fun a U g mk q =>
  ⟨q.1, (PS.blind as D T ws sz a U g mk ⟨q.1, q.2.1⟩).2, JX.warm (U := U.calling g mk a) (State.WarmedH.refl U) q.2.2⟩
theorem JX.call {x : JV} {wc : va_W} {A0 : Nat → Prop} {s U : State} {H0 H : Heap} {locs : List Loc} (hX : JX x A0 s H0) (hS : va_S A0 H0 H locs) (hF : ∀ q, va_A wc H.size q → A0 q) (hU : U.heap = H) (hW : s.WarmedH U.vm) : JX x (va_A wc H.size) U U.heap := by
  rw [hU]
  exact ((hX.kept hS.2.1).warm hW).narrow hF
/-- a string of the world's outside, at a call that reads it alone -/
theorem STF.at {a t N : Nat} {w : Nat → Int32} {A : Nat → Prop} {s U : State} {H0 H : Heap} {locs : List Loc} (h : STF a t N w A s H0) (hS : va_S A H0 H locs) (hU : U.heap = H) (hv : s.vm.Alike U.vm) : STF a t N w nA U U.heap := by
  rw [hU]
  exact ((h.kept hS.2.1).moved hv).narrow (fun q z => z.elim)
theorem STF.rc {a t N : Nat} {w : Nat → Int32} {A : Nat → Prop} {s : State} {H0 H : Heap} {locs : List Loc} (h : STF a t N w A s H0) (hS : va_S A H0 H locs) : ∃ cell : Cell, H[a]? = some cell ∧ cell.vm.isStatics = false ∧ s.vm.findClass "java/lang/String" = some cell.cls := by
  obtain ⟨cell, g1, g2, g3, -⟩ := (h.kept hS.2.1).1
  exact ⟨cell, g1, g2, g3⟩
/-- a private method is selected on any class, where that class selects something of its owner's -/
theorem sel_priv {y z x : MethodName} {C : String} {s : State} {args : Array Value} (hy : y.cls ≠ "java/lang/invoke/MethodHandle" ∧ y.cls ≠ "java/lang/invoke/VarHandle")
    (hpriv : (Cond.privateMethod y).before args s = true) (hinst : (Cond.instanceMethod y).before args s = true) (hz : (Cond.selects C x z).before args s = true) (hzy : z.cls = y.cls) : (Cond.selects C y y).before args s = true := by
  obtain ⟨mk, methM, hnamed, hmethM, -, -⟩ := Cond.instanceMethod_spec hinst
  have hfound : s.methodFound? y.cls y.name y.desc = some mk := State.methodFound?_of_named hnamed hy
  have hsel : selectMethod {} s.vm (s.vm.findClass C).get! mk = .method mk ∨ True := Or.inr trivial
  simp only [Cond.before, Cond.holds, Cond.value] at hz
  cases hc : s.vm.findClass C with
  | none => simp [hc] at hz
  | some c =>
    cases hr : s.methodFound? x.cls x.name x.desc with
    | none => simp [hc, hr] at hz
    | some r =>
      cases hm : s.methodNamed? z with
      | none => simp [hc, hr, hm] at hz
      | some mz =>
        have e : mz.cls = mk.cls := Option.some.inj ((findClass_of_methodNamed hm).symm.trans (by rw [hzy]; exact findClass_of_methodNamed hnamed))
        have hz2 : (s.vm.classes[mk.cls]?).any (fun k => !k.isInterface) = true := by
          rw [← e]
          simp only [hc, hr, hm] at hz
          cases hs : selectMethod {} s.vm c r with
          | method m' =>
            simp only [hs] at hz
            have hz9 : (decide (m' = mz) && (s.vm.classes[mz.cls]?).any (!·.isInterface)) = true := by simpa using hz
            exact (Bool.and_eq_true _ _ ▸ hz9).2
          | _ => simp [hs] at hz
        have hsel : selectMethod {} s.vm c mk = .method mk := selectMethod_private hmethM (Cond.privateMethod_at hpriv mk methM hnamed hmethM)
        simp only [Cond.before, Cond.holds, Cond.value, hc, hfound, hnamed, hsel, hz2]
        simp
def wsP (own : String) (idx : Nat) (C : String) (y : MethodName) (ws : List Cond) : List Cond := ([.methodLink own idx y, .instanceMethod y, .selects C y y, .initialized y.cls] : List Cond) ++ ws
section CWP
variable {R : Room} {s : State} {args : Array Value} {own C : String} {index : Nat} {y : MethodName} {bytes : ByteArray} {maxL mc ms : Nat} {ret : Option FieldType} {Ts ws ws' : List Cond} {rm : Room}
theorem cwP (n : Nat) (ht : ∀ w ∈ Ts, w.before args s = true) (hT : GoodIn Ts (wsP own index C y ws)) (hw : ws = Cond.code y bytes maxL ret :: ws') (hrc : rm.cells = mc) (hrs : rm.slots = ms)
    (hd : y.cls ≠ "java/lang/invoke/MethodHandle" ∧ y.cls ≠ "java/lang/invoke/VarHandle" ∧ (parseMethodDescriptor y.desc).map (fun d => d.parameters.length) = some n) (hR : rm.frames + 1 ≤ R.frames ∧ 8 + (maxL + 11) + rm.locals ≤ R.locals) :
    CallW R s args own C index y bytes maxL ret ws rm mc ms n := by
  have ok : ∀ w ∈ wsP own index C y ws, w.before args s = true := fun w h => ht w (hT w h).1
  exact ⟨callB_of n ht (fun w h => hT w (by unfold wsP; exact List.mem_append_right _ h)) hw hrc hrs (ok _ (by simp [wsP])) (ok _ (by simp [wsP])) hd hR, ok _ (by simp [wsP]), ok _ (by simp [wsP])⟩
end CWP
/-- the words that the JDK part stands over: besides the tables', that StringBuilder selects its super's private methods -/
def jsel : List Cond := [Cond.selects RJ4 yJ5_ensureCapacityInternal_d00df yJ5_ensureCapacityInternal_d00df, Cond.selects RJ4 yJ5_newCapacity_0f7a4 yJ5_newCapacity_0f7a4, Cond.selects RJ4 yJ5_putStringAt_47b60 yJ5_putStringAt_47b60, Cond.selects RJ4 yJ5_inflateIfNeededFor_a7421 yJ5_inflateIfNeededFor_a7421]
def gJ : List Cond := jsel ++ gT
theorem sel_yJ5_ensureCapacityInternal_d00df : Cond.selects RJ4 yJ5_ensureCapacityInternal_d00df yJ5_ensureCapacityInternal_d00df ∈ gJ := List.mem_append_left _ (List.mem_of_getElem? (i := 0) rfl)
theorem sel_yJ5_newCapacity_0f7a4 : Cond.selects RJ4 yJ5_newCapacity_0f7a4 yJ5_newCapacity_0f7a4 ∈ gJ := List.mem_append_left _ (List.mem_of_getElem? (i := 1) rfl)
theorem sel_yJ5_putStringAt_47b60 : Cond.selects RJ4 yJ5_putStringAt_47b60 yJ5_putStringAt_47b60 ∈ gJ := List.mem_append_left _ (List.mem_of_getElem? (i := 2) rfl)
theorem sel_yJ5_inflateIfNeededFor_a7421 : Cond.selects RJ4 yJ5_inflateIfNeededFor_a7421 yJ5_inflateIfNeededFor_a7421 ∈ gJ := List.mem_append_left _ (List.mem_of_getElem? (i := 3) rfl)
theorem gJ_of {w : Cond} (hm : w ∈ lw_tbl) (hg : goodWord w = true) : w ∈ gJ := List.mem_append_right _ (gT_of hm hg)
theorem gJ_up {l : List Cond} (h : GoodIn gT l) : GoodIn gJ l := fun w hw => ⟨List.mem_append_right _ (h w hw).1, (h w hw).2⟩
theorem gnilJ : GoodIn gJ [] := fun w h => absurd h List.not_mem_nil
theorem gconJ {w : Cond} {l : List Cond} (hm : w ∈ gJ) (hg : goodWord w = true) (h : GoodIn gJ l) : GoodIn gJ (w :: l) := fun z hz => (List.mem_cons.mp hz).elim (fun e => e ▸ ⟨hm, good_of_word hg⟩) (h z)
theorem gJ_self : GoodIn gJ gJ := fun w h => (List.mem_append.mp h).elim (fun h1 => by
    refine ⟨h, good_of_word ?_⟩
    have : ∀ w ∈ jsel, goodWord w = true := by decide +kernel
    exact this w h1) (fun h2 => ⟨h, (gT_self w h2).2⟩)
theorem gCJ {c : Cond} {l : List Cond} (h : GoodIn gJ l) : GoodIn (c :: gJ) l := fun w hw => ⟨List.mem_cons_of_mem _ (h w hw).1, (h w hw).2⟩
def vtJ4_init_a7421 : List Cond := Cond.code yJ4_init_a7421 cJ4_init_a7421 2 none :: gJ
theorem gw_vtJ4_init_a7421 : GoodIn gJ vtJ4_init_a7421 := gconJ (gJ_of mw_438 rfl) rfl gJ_self
def vtJ5_init_a7421 : List Cond := Cond.code yJ5_init_a7421 cJ5_init_a7421 5 none :: gJ
theorem gw_vtJ5_init_a7421 : GoodIn gJ vtJ5_init_a7421 := gconJ (gJ_of mw_439 rfl) rfl gJ_self
def vtJ4_append_15ec4 : List Cond := Cond.code yJ4_append_15ec4 cJ4_append_15ec4 2 (some (.object "java/lang/StringBuilder")) :: gJ
theorem gw_vtJ4_append_15ec4 : GoodIn gJ vtJ4_append_15ec4 := gconJ (gJ_of mw_440 rfl) rfl gJ_self
def vtJ5_append_cf1ce : List Cond := Cond.code yJ5_append_cf1ce cJ5_append_cf1ce 3 (some (.object "java/lang/AbstractStringBuilder")) :: gJ
theorem gw_vtJ5_append_cf1ce : GoodIn gJ vtJ5_append_cf1ce := gconJ (gJ_of mw_441 rfl) rfl gJ_self
def vtJ5_ensureCapacityInternal_d00df : List Cond := Cond.code yJ5_ensureCapacityInternal_d00df cJ5_ensureCapacityInternal_d00df 3 none :: gJ
theorem gw_vtJ5_ensureCapacityInternal_d00df : GoodIn gJ vtJ5_ensureCapacityInternal_d00df := gconJ (gJ_of mw_442 rfl) rfl gJ_self
def vtJ5_newCapacity_0f7a4 : List Cond := Cond.code yJ5_newCapacity_0f7a4 cJ5_newCapacity_0f7a4 6 (some .int) :: gJ
theorem gw_vtJ5_newCapacity_0f7a4 : GoodIn gJ vtJ5_newCapacity_0f7a4 := gconJ (gJ_of mw_443 rfl) rfl gJ_self
def vtJ8_newLength_cabcc : List Cond := Cond.code yJ8_newLength_cabcc cJ8_newLength_cabcc 4 (some .int) :: gJ
theorem gw_vtJ8_newLength_cabcc : GoodIn gJ vtJ8_newLength_cabcc := gconJ (gJ_of mw_444 rfl) rfl gJ_self
def vtJ7_copyOf_9075b : List Cond := Cond.code yJ7_copyOf_9075b cJ7_copyOf_9075b 3 (some (.array .byte)) :: gJ
theorem gw_vtJ7_copyOf_9075b : GoodIn gJ vtJ7_copyOf_9075b := gconJ (gJ_of mw_445 rfl) rfl gJ_self
def vtJ5_putStringAt_47b60 : List Cond := Cond.code yJ5_putStringAt_47b60 cJ5_putStringAt_47b60 3 none :: gJ
theorem gw_vtJ5_putStringAt_47b60 : GoodIn gJ vtJ5_putStringAt_47b60 := gconJ (gJ_of mw_446 rfl) rfl gJ_self
def vtJ5_inflateIfNeededFor_a7421 : List Cond := Cond.code yJ5_inflateIfNeededFor_a7421 cJ5_inflateIfNeededFor_a7421 2 none :: gJ
theorem gw_vtJ5_inflateIfNeededFor_a7421 : GoodIn gJ vtJ5_inflateIfNeededFor_a7421 := gconJ (gJ_of mw_447 rfl) rfl gJ_self
def vtJ0_getBytes_840e7 : List Cond := Cond.code yJ0_getBytes_840e7 cJ0_getBytes_840e7 4 none :: gJ
theorem gw_vtJ0_getBytes_840e7 : GoodIn gJ vtJ0_getBytes_840e7 := gconJ (gJ_of mw_448 rfl) rfl gJ_self
def vtJ4_append_cf468 : List Cond := Cond.code yJ4_append_cf468 cJ4_append_cf468 2 (some (.object "java/lang/StringBuilder")) :: gJ
theorem gw_vtJ4_append_cf468 : GoodIn gJ vtJ4_append_cf468 := gconJ (gJ_of mw_449 rfl) rfl gJ_self
def vtJ5_append_c97b9 : List Cond := Cond.code yJ5_append_c97b9 cJ5_append_c97b9 4 (some (.object "java/lang/AbstractStringBuilder")) :: gJ
theorem gw_vtJ5_append_c97b9 : GoodIn gJ vtJ5_append_c97b9 := gconJ (gJ_of mw_450 rfl) rfl gJ_self
def vtJ5_isLatin1_aae02 : List Cond := Cond.code yJ5_isLatin1_aae02 cJ5_isLatin1_aae02 1 (some .boolean) :: gJ
theorem gw_vtJ5_isLatin1_aae02 : GoodIn gJ vtJ5_isLatin1_aae02 := gconJ (gJ_of mw_451 rfl) rfl gJ_self
def vtJ1_canEncode_fc78d : List Cond := Cond.code yJ1_canEncode_fc78d cJ1_canEncode_fc78d 1 (some .boolean) :: gJ
theorem gw_vtJ1_canEncode_fc78d : GoodIn gJ vtJ1_canEncode_fc78d := gconJ (gJ_of mw_452 rfl) rfl gJ_self
def vtJ4_append_bf812 : List Cond := Cond.code yJ4_append_bf812 cJ4_append_bf812 2 (some (.object "java/lang/StringBuilder")) :: gJ
theorem gw_vtJ4_append_bf812 : GoodIn gJ vtJ4_append_bf812 := gconJ (gJ_of mw_453 rfl) rfl gJ_self
def vtJ5_append_3fe6f : List Cond := Cond.code yJ5_append_3fe6f cJ5_append_3fe6f 2 (some (.object "java/lang/AbstractStringBuilder")) :: gJ
theorem gw_vtJ5_append_3fe6f : GoodIn gJ vtJ5_append_3fe6f := gconJ (gJ_of mw_454 rfl) rfl gJ_self
def vtJ6_stringSize_0f7a4 : List Cond := Cond.code yJ6_stringSize_0f7a4 cJ6_stringSize_0f7a4 4 (some .int) :: gJ
theorem gw_vtJ6_stringSize_0f7a4 : GoodIn gJ vtJ6_stringSize_0f7a4 := gconJ (gJ_of mw_455 rfl) rfl gJ_self
def vtJ6_getChars_ba4f3 : List Cond := Cond.code yJ6_getChars_ba4f3 cJ6_getChars_ba4f3 7 (some .int) :: gJ
theorem gw_vtJ6_getChars_ba4f3 : GoodIn gJ vtJ6_getChars_ba4f3 := gconJ (gJ_of mw_456 rfl) rfl gJ_self
def vtJ4_toString_0e30d : List Cond := Cond.code yJ4_toString_0e30d cJ4_toString_0e30d 1 (some (.object "java/lang/String")) :: gJ
theorem gw_vtJ4_toString_0e30d : GoodIn gJ vtJ4_toString_0e30d := gconJ (gJ_of mw_457 rfl) rfl gJ_self
def vtJ0_init_81219 : List Cond := Cond.code yJ0_init_81219 cJ0_init_81219 2 none :: gJ
theorem gw_vtJ0_init_81219 : GoodIn gJ vtJ0_init_81219 := gconJ (gJ_of mw_458 rfl) rfl gJ_self
def vtJ0_init_db425 : List Cond := Cond.code yJ0_init_db425 cJ0_init_db425 5 none :: gJ
theorem gw_vtJ0_init_db425 : GoodIn gJ vtJ0_init_db425 := gconJ (gJ_of mw_459 rfl) rfl gJ_self
def vtJ7_copyOfRange_39247 : List Cond := Cond.code yJ7_copyOfRange_39247 cJ7_copyOfRange_39247 3 (some (.array .byte)) :: gJ
theorem gw_vtJ7_copyOfRange_39247 : GoodIn gJ vtJ7_copyOfRange_39247 := gconJ (gJ_of mw_460 rfl) rfl gJ_self
def vtJ7_copyOfRangeByte_39247 : List Cond := Cond.code yJ7_copyOfRangeByte_39247 cJ7_copyOfRangeByte_39247 5 (some (.array .byte)) :: gJ
theorem gw_vtJ7_copyOfRangeByte_39247 : GoodIn gJ vtJ7_copyOfRangeByte_39247 := gconJ (gJ_of mw_461 rfl) rfl gJ_self
def vtJ7_checkLength_df160 : List Cond := Cond.code yJ7_checkLength_df160 cJ7_checkLength_df160 2 none :: gJ
theorem gw_vtJ7_checkLength_df160 : GoodIn gJ vtJ7_checkLength_df160 := gconJ (gJ_of mw_462 rfl) rfl gJ_self
def vtJ5_getValue_6d5f1 : List Cond := Cond.code yJ5_getValue_6d5f1 cJ5_getValue_6d5f1 1 (some (.array .byte)) :: gJ
theorem gw_vtJ5_getValue_6d5f1 : GoodIn gJ vtJ5_getValue_6d5f1 := gconJ (gJ_of mw_463 rfl) rfl gJ_self
def vtJ5_length_8abf5 : List Cond := Cond.code yJ5_length_8abf5 cJ5_length_8abf5 1 (some .int) :: gJ
theorem gw_vtJ5_length_8abf5 : GoodIn gJ vtJ5_length_8abf5 := gconJ (gJ_of mw_464 rfl) rfl gJ_self
def vtJ4_length_8abf5 : List Cond := Cond.code yJ4_length_8abf5 cJ4_length_8abf5 1 (some .int) :: gJ
theorem gw_vtJ4_length_8abf5 : GoodIn gJ vtJ4_length_8abf5 := gconJ (gJ_of mw_465 rfl) rfl gJ_self
def vtJ4_append_cf1ce : List Cond := Cond.code yJ4_append_cf1ce cJ4_append_cf1ce 2 (some (.object "java/lang/AbstractStringBuilder")) :: gJ
theorem gw_vtJ4_append_cf1ce : GoodIn gJ vtJ4_append_cf1ce := gconJ (gJ_of mw_579 rfl) rfl gJ_self
section JTL
variable {p : Program} {l : Launch} {e : Env} {R : Room} {s : State} {m : MethodId} {args : Array Value} {below : List Frame} {meth : Method} {c : Code} {H H0 : Heap} {locs : List Loc} {cells slots : Nat} {Q : State → Prop}
  {mc ms pc : Nat} {rest st : List Value} {ls : Array Slot} {a : Array Value} {D : va_G} {T : Nat → ClassId} {ws wc : va_W} {A0 : Nat → Prop} {S : Type} {ws1 wc1 : S → va_W}
/-- behind a call, by what it leaves -/
theorem jti {px : Int32 → S → Prop} (hr : va_Run p l e R s m args below meth c H locs cells slots mc ms (F0 m pc ls st) rest (va_Qi px (fun u t => QS D T (va_A wc H.size) (wc1 u) t) (va_A wc H.size) a) (va_A wc H.size)) (F : ∀ u, Foc ws wc (ws1 u) (wc1 u)) (F0' : Foc ws wc ws wc) (hP : va_P D vwCl ws H) (hD : va_D A0 ws) (hS : va_S A0 H0 H locs) (hA : ∀ q, H0.size ≤ q → A0 q)
    (kk : ∀ (r : Int32) (u : S) (H1 : Heap) (locs1 : List Loc), px r u → va_P D vwCl (ws1 u) H1 → va_D A0 (ws1 u) → va_S A0 H0 H1 locs1 → W p l e R s m args below meth c H1 locs1 (cells + mc) (slots + ms) Q (F0 m (pc + 3) ls (.int r :: rest))) : W p l e R s m args below meth c H locs cells slots Q (F0 m pc ls st) := by
  have hFc := F0'.free hD hS hA
  refine va_calli hr hS (fun q _ h => hFc q h) hFc (fun r1 u t H1 locs1 ht hvm hw hB hz1 hk1 hS1 => ?_)
  obtain ⟨hP1, hK1, hD1⟩ := hB
  rw [ht] at hP1
  obtain ⟨g1, g2⟩ := (F u).join hP hD hk1 hFc hP1 hD1
  exact kk r1 u H1 locs1 hw g1 g2 hS1
theorem jtv {px : S → Prop} (hr : va_Run p l e R s m args below meth c H locs cells slots mc ms (F0 m pc ls st) rest (va_Qv px (fun u t => QS D T (va_A wc H.size) (wc1 u) t) (va_A wc H.size) a) (va_A wc H.size)) (F : ∀ u, Foc ws wc (ws1 u) (wc1 u)) (F0' : Foc ws wc ws wc) (hP : va_P D vwCl ws H) (hD : va_D A0 ws) (hS : va_S A0 H0 H locs) (hA : ∀ q, H0.size ≤ q → A0 q)
    (kk : ∀ (u : S) (H1 : Heap) (locs1 : List Loc), px u → va_P D vwCl (ws1 u) H1 → va_D A0 (ws1 u) → va_S A0 H0 H1 locs1 → W p l e R s m args below meth c H1 locs1 (cells + mc) (slots + ms) Q (F0 m (pc + 3) ls rest)) : W p l e R s m args below meth c H locs cells slots Q (F0 m pc ls st) := by
  have hFc := F0'.free hD hS hA
  refine va_callv hr hS (fun q _ h => hFc q h) hFc (fun u t H1 locs1 ht hvm hw hB hz1 hk1 hS1 => ?_)
  obtain ⟨hP1, hK1, hD1⟩ := hB
  rw [ht] at hP1
  obtain ⟨g1, g2⟩ := (F u).join hP hD hk1 hFc hP1 hD1
  exact kk u H1 locs1 hw g1 g2 hS1
theorem jtr {px : S → Prop} {ru : S → Nat} (hr : va_Run p l e R s m args below meth c H locs cells slots mc ms (F0 m pc ls st) rest (va_Qr px (fun u b t => b = ru u ∧ QS D T (va_A wc H.size) (wc1 u) t) (va_A wc H.size) a) (va_A wc H.size)) (F : ∀ u, Foc ws wc (ws1 u) (wc1 u)) (F0' : Foc ws wc ws wc) (hP : va_P D vwCl ws H) (hD : va_D A0 ws) (hS : va_S A0 H0 H locs) (hA : ∀ q, H0.size ≤ q → A0 q)
    (kk : ∀ (u : S) (H1 : Heap) (locs1 : List Loc), px u → va_P D vwCl (ws1 u) H1 → va_D A0 (ws1 u) → va_S A0 H0 H1 locs1 → W p l e R s m args below meth c H1 locs1 (cells + mc) (slots + ms) Q (F0 m (pc + 3) ls (.ref (ru u) :: rest))) : W p l e R s m args below meth c H locs cells slots Q (F0 m pc ls st) := by
  have hFc := F0'.free hD hS hA
  refine va_callr hr hS (fun q _ h => hFc q h) hFc (fun u ra t H1 locs1 ht hvm hw hB hz1 hk1 hS1 => ?_)
  obtain ⟨rfl, hP1, hK1, hD1⟩ := hB
  rw [ht] at hP1
  obtain ⟨g1, g2⟩ := (F u).join hP hD hk1 hFc hP1 hD1
  exact kk u H1 locs1 hw g1 g2 hS1
/-- what a callee finds -/
theorem jpre {x : JV} {As : List Value} (F0' : Foc ws wc ws wc) (hX : JX x A0 s H0) (hK : va_K D vwCl (tyL T) s) (hP : va_P D vwCl ws H) (hD : va_D A0 ws) (hS : va_S A0 H0 H locs) (hA : ∀ q, H0.size ≤ q → A0 q) : ∀ U : State, U.heap = H → s.WarmedH U.vm → va_Pc As (JP D T x wc H.size) As.toArray U := fun U hU hW =>
  ⟨rfl, ⟨by rw [hU], by rw [hU]; exact F0'.subP hP, va_K.moved hW.alike hK, (F0'.subD hD).weaken (fun _ _ _ _ => trivial)⟩, hX.call hS (F0'.free hD hS hA) hU hW⟩
end JTL
section JME
variable {l : Launch} {y : MethodName} {ws ws' : List Cond} {rm : Room} {as : List Value} {D : va_G} {T : Nat → ClassId} {w : va_W} {cc : ByteArray} {maxL : Nat} {ty : FieldType} {sz mc ms : Nat} {x : JV} {S : Type} {wu : S → va_W}
theorem metJi {px : Int32 → S → Prop} (hy : plainName y.cls = true) (hw : ws = Cond.code y cc maxL (some ty) :: ws') (hn : ∀ r u, px r u → narrow ty (.int r) = .int r) (hlen : (lg_sl as).length ≤ maxL)
    (body : ∀ (p : Program) (e : Env) (s : State) (m : MethodId) (args : Array Value) (below : List Frame) (meth : Method) (c : Code) (Q : State → Prop) (ls : Array Slot) (A : Nat → Prop), p.tables.exec = Jvm.exec → c.code = cc → c.maxLocals = maxL → s.vm.findClass y.cls = some m.cls → (∀ q ∈ ws, q.before args s = true) → JX x A s s.heap → va_P D vwCl w s.heap → va_K D vwCl (tyL T) s → va_D A w → (∀ q : Nat, s.heap.size ≤ q → A q) → va_S A s.heap s.heap [] → lv_has ls maxL (lv_args 0 as) →
      (∀ (H : Heap) (locs : List Loc) (ls : Array Slot) (pc k n : Nat) (r : Int32) (u : S), decode cc pc = .ok (.ireturn, 1) → px r u → va_P D vwCl (wu u) H → va_D A (wu u) → va_S A s.heap H locs → k ≤ mc → n ≤ ms → W p l e rm s m args below meth c H locs k n Q (F0 m pc ls [.int r])) →
      W p l e rm s m args below meth c s.heap [] 0 0 Q (F0 m 0 ls [])) : Met l y ws rm (va_Pc as (JP D T x w sz)) (va_Qi px (fun u t => QS D T (va_A w sz) (wu u) t) (va_A w sz)) mc ms (va_A w sz) := by
  refine Met.ofW (cc := cc) (maxL := maxL) (ret := (some ty)) hy hw ?_
  intro p e s m args below meth c s₁ B hml hv
  obtain ⟨rfl, ⟨hsz, hP, hK, hD0⟩, hX⟩ := hv
  subst hsz
  have hts := atoms_spec (ws := ws) B.pre
  have hown : s.vm.findClass y.cls = some m.cls := findClass_of_methodNamed B.named
  have hlocks := B.notSynchronized
  have hl := lv_entry as (n := maxL) hlen
  rw [lg_entry_eq]
  refine body p e s m _ below meth c _ _ (va_A w s.heap.size) B.exec B.bytes hml hown hts hX hP hK (hD0.self (sz := s.heap.size)) (fun q h => Or.inr h) va_S.rf hl (fun H locs ls pc k n r u hd hpx hP1 hD1 hS hk1 hn1 => ?_)
  refine W.widen (k := mc) (n := ms) hk1 hn1 ?_
  exact W.zret B.exec B.bytes B.returns (hn r u hpx) (fun t ht hW => ⟨⟨r, u, rfl, hpx, by rw [ht]; exact hP1, va_K.moved hW.alike hK, hD1⟩, hS.F ht⟩) hS.2.2 hd
theorem metJv {px : S → Prop} (hy : plainName y.cls = true) (hw : ws = Cond.code y cc maxL none :: ws') (hlen : (lg_sl as).length ≤ maxL)
    (body : ∀ (p : Program) (e : Env) (s : State) (m : MethodId) (args : Array Value) (below : List Frame) (meth : Method) (c : Code) (Q : State → Prop) (ls : Array Slot) (A : Nat → Prop), p.tables.exec = Jvm.exec → c.code = cc → c.maxLocals = maxL → s.vm.findClass y.cls = some m.cls → (∀ q ∈ ws, q.before args s = true) → JX x A s s.heap → va_P D vwCl w s.heap → va_K D vwCl (tyL T) s → va_D A w → (∀ q : Nat, s.heap.size ≤ q → A q) → va_S A s.heap s.heap [] → lv_has ls maxL (lv_args 0 as) →
      (∀ (H : Heap) (locs : List Loc) (ls : Array Slot) (pc k n : Nat) (u : S), decode cc pc = .ok (.return_, 1) → px u → va_P D vwCl (wu u) H → va_D A (wu u) → va_S A s.heap H locs → k ≤ mc → n ≤ ms → W p l e rm s m args below meth c H locs k n Q (F0 m pc ls [])) →
      W p l e rm s m args below meth c s.heap [] 0 0 Q (F0 m 0 ls [])) : Met l y ws rm (va_Pc as (JP D T x w sz)) (va_Qv px (fun u t => QS D T (va_A w sz) (wu u) t) (va_A w sz)) mc ms (va_A w sz) := by
  refine Met.ofW (cc := cc) (maxL := maxL) (ret := none) hy hw ?_
  intro p e s m args below meth c s₁ B hml hv
  obtain ⟨rfl, ⟨hsz, hP, hK, hD0⟩, hX⟩ := hv
  subst hsz
  have hts := atoms_spec (ws := ws) B.pre
  have hown : s.vm.findClass y.cls = some m.cls := findClass_of_methodNamed B.named
  have hlocks := B.notSynchronized
  have hl := lv_entry as (n := maxL) hlen
  rw [lg_entry_eq]
  refine body p e s m _ below meth c _ _ (va_A w s.heap.size) B.exec B.bytes hml hown hts hX hP hK (hD0.self (sz := s.heap.size)) (fun q h => Or.inr h) va_S.rf hl (fun H locs ls pc k n u hd hpx hP1 hD1 hS hk1 hn1 => ?_)
  refine W.widen (k := mc) (n := ms) hk1 hn1 ?_
  exact W.vret B.exec B.bytes B.returns (fun t ht hW => ⟨⟨u, rfl, hpx, by rw [ht]; exact hP1, va_K.moved hW.alike hK, hD1⟩, hS.F ht⟩) hS.2.2 hd
theorem metJr {px : S → Prop} {ru : S → Nat} (hy : plainName y.cls = true) (hw : ws = Cond.code y cc maxL (some ty) :: ws') (hn : (∃ n, ty = .object n) ∨ ∃ t, ty = .array t) (hlen : (lg_sl as).length ≤ maxL)
    (body : ∀ (p : Program) (e : Env) (s : State) (m : MethodId) (args : Array Value) (below : List Frame) (meth : Method) (c : Code) (Q : State → Prop) (ls : Array Slot) (A : Nat → Prop), p.tables.exec = Jvm.exec → c.code = cc → c.maxLocals = maxL → s.vm.findClass y.cls = some m.cls → (∀ q ∈ ws, q.before args s = true) → JX x A s s.heap → va_P D vwCl w s.heap → va_K D vwCl (tyL T) s → va_D A w → (∀ q : Nat, s.heap.size ≤ q → A q) → va_S A s.heap s.heap [] → lv_has ls maxL (lv_args 0 as) →
      (∀ (H : Heap) (locs : List Loc) (ls : Array Slot) (pc k n : Nat) (u : S), decode cc pc = .ok (.areturn, 1) → px u → va_P D vwCl (wu u) H → va_D A (wu u) → va_S A s.heap H locs → k ≤ mc → n ≤ ms → W p l e rm s m args below meth c H locs k n Q (F0 m pc ls [.ref (ru u)])) →
      W p l e rm s m args below meth c s.heap [] 0 0 Q (F0 m 0 ls [])) : Met l y ws rm (va_Pc as (JP D T x w sz)) (va_Qr px (fun u b t => b = ru u ∧ QS D T (va_A w sz) (wu u) t) (va_A w sz)) mc ms (va_A w sz) := by
  refine Met.ofW (cc := cc) (maxL := maxL) (ret := (some ty)) hy hw ?_
  intro p e s m args below meth c s₁ B hml hv
  obtain ⟨rfl, ⟨hsz, hP, hK, hD0⟩, hX⟩ := hv
  subst hsz
  have hts := atoms_spec (ws := ws) B.pre
  have hown : s.vm.findClass y.cls = some m.cls := findClass_of_methodNamed B.named
  have hlocks := B.notSynchronized
  have hl := lv_entry as (n := maxL) hlen
  rw [lg_entry_eq]
  refine body p e s m _ below meth c _ _ (va_A w s.heap.size) B.exec B.bytes hml hown hts hX hP hK (hD0.self (sz := s.heap.size)) (fun q h => Or.inr h) va_S.rf hl (fun H locs ls pc k n u hd hpx hP1 hD1 hS hk1 hn1 => ?_)
  refine W.widen (k := mc) (n := ms) hk1 hn1 ?_
  exact W.aret B.exec B.bytes B.returns hn (Or.inr ⟨_, rfl⟩) (fun t ht hW => ⟨⟨u, _, rfl, hpx, rfl, by rw [ht]; exact hP1, va_K.moved hW.alike hK, hD1⟩, hS.F ht⟩) hS.2.2 hd
end JME
