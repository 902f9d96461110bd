/-! the law: its loop -/
theorem and63 (x : Int32) : ∃ k, k < 64 ∧ x &&& 63 = nI k := by
  refine ⟨(x.toBitVec &&& 63#32).toNat, ?_, ?_⟩
  · rw [BitVec.toNat_and]
    exact Nat.lt_of_le_of_lt Nat.and_le_right (by decide)
  · apply Int32.toBitVec_inj.mp
    rw [Int32.toBitVec_and]
    show x.toBitVec &&& 63#32 = BitVec.ofNat 32 (x.toBitVec &&& 63#32).toNat
    rw [BitVec.ofNat_toNat, BitVec.setWidth_eq]
theorem ltL6 {i L : Nat} (hi : i ≤ 100000) (hL : L ≤ 100000) : (nI L - 6 < nI i) ↔ L < i + 6 := by
  rw [Int32.lt_iff_toInt_lt, nI_toInt (by omega), show (6 : Int32) = nI 6 from rfl, pk_sub_toInt (by omega) (by omega)]
  omega
theorem hroomC : 601024 ≤ room_1.cells := Nat.le_of_ble_eq_true rfl
theorem hroomS : 7293034 ≤ room_1.slots := Nat.le_of_ble_eq_true rfl
section LOO
variable {p : Program} {l : Launch} {e : Env} {s : State} {m : MethodId} {args : Array Value} {below : List Frame} {meth : Method} {c : Code} {Q : State → Prop} {D : va_G} {T : Nat → ClassId} {aK aV : Nat → Nat} {A : Nat → Prop} {sc L : Nat} {xs : Nat → Int32} {v : Nat → Nat} {B : Nat → Nat → Nat} {b : Nat → Nat} {ob : Nat}
theorem armX (X : LCX p l s m args c D T aK aV A sc L xs) {i : Nat} (hi : i + 6 ≤ L) {H : Heap} {locs : List Loc} {ls : Array Slot} {cells slots : Nat} (hcs : cells + 5 ≤ room_1.cells ∧ slots + 30 ≤ room_1.slots) (h : LST s D T A sc v B b ob i H locs ls) (kk : ∀ (H1 : Heap) (locs1 : List Loc) (ls1 : Array Slot), LST s D T A sc v B b ob i H1 locs1 ls1 → W p l e room_1 s m args below meth c H1 locs1 (cells + 5) (slots + 30) Q (F0 m 3239 ls1 [])) {k : Nat} (hk : k < 64) : W p l e room_1 s m args below meth c H locs cells slots Q (F0 m 40 ls [.int (nI k)]) := by
  have hx := X.2.1
  have hb := X.2.2.1
  rcases (by omega : k = 0 ∨ k = 1 ∨ k = 2 ∨ k = 3 ∨ k = 4 ∨ k = 5 ∨ k = 6 ∨ k = 7 ∨ k = 8 ∨ k = 9 ∨ k = 10 ∨ k = 11 ∨ k = 12 ∨ k = 13 ∨ k = 14 ∨ k = 15 ∨ k = 16 ∨ k = 17 ∨ k = 18 ∨ k = 19 ∨ k = 20 ∨ k = 21 ∨ k = 22 ∨ k = 23 ∨ k = 24 ∨ k = 25 ∨ k = 26 ∨ k = 27 ∨ k = 28 ∨ k = 29 ∨ k = 30 ∨ k = 31 ∨ k = 32 ∨ k = 33 ∨ k = 34 ∨ k = 35 ∨ k = 36 ∨ k = 37 ∨ k = 38 ∨ k = 39 ∨ k = 40 ∨ k = 41 ∨ k = 42 ∨ k = 43 ∨ k = 44 ∨ k = 45 ∨ k = 46 ∨ k = 47 ∨ k = 48 ∨ k = 49 ∨ k = 50 ∨ k = 51 ∨ k = 52 ∨ k = 53 ∨ k = 54 ∨ k = 55 ∨ k = 56 ∨ k = 57 ∨ k = 58 ∨ k = 59 ∨ k = 60 ∨ k = 61 ∨ k = 62 ∨ k = 63) with rfl | rfl | rfl | rfl | rfl | rfl | rfl | rfl | rfl | rfl | rfl | rfl | rfl | rfl | rfl | rfl | rfl | rfl | rfl | rfl | rfl | rfl | rfl | rfl | rfl | rfl | rfl | rfl | rfl | rfl | rfl | rfl | rfl | rfl | rfl | rfl | rfl | rfl | rfl | rfl | rfl | rfl | rfl | rfl | rfl | rfl | rfl | rfl | rfl | rfl | rfl | rfl | rfl | rfl | rfl | rfl | rfl | rfl | rfl | rfl | rfl | rfl | rfl | rfl
  · exact lv_tableIn (off := 272) (tgt := 312) hx hb dL_law_40 (by decide) (by decide) (by decide +kernel) (by decide) (arm_0 X hi hcs h kk)
  · exact lv_tableIn (off := 376) (tgt := 416) hx hb dL_law_40 (by decide) (by decide) (by decide +kernel) (by decide) (arm_1 X hi hcs h kk)
  · exact lv_tableIn (off := 432) (tgt := 472) hx hb dL_law_40 (by decide) (by decide) (by decide +kernel) (by decide) (arm_2 X hi hcs h kk)
  · exact lv_tableIn (off := 476) (tgt := 516) hx hb dL_law_40 (by decide) (by decide) (by decide +kernel) (by decide) (arm_3 X hi hcs h kk)
  · exact lv_tableIn (off := 489) (tgt := 529) hx hb dL_law_40 (by decide) (by decide) (by decide +kernel) (by decide) (arm_4 X hi hcs h kk)
  · exact lv_tableIn (off := 533) (tgt := 573) hx hb dL_law_40 (by decide) (by decide) (by decide +kernel) (by decide) (arm_5 X hi hcs h kk)
  · exact lv_tableIn (off := 546) (tgt := 586) hx hb dL_law_40 (by decide) (by decide) (by decide +kernel) (by decide) (arm_6 X hi hcs h kk)
  · exact lv_tableIn (off := 602) (tgt := 642) hx hb dL_law_40 (by decide) (by decide) (by decide +kernel) (by decide) (arm_7 X hi hcs h kk)
  · exact lv_tableIn (off := 658) (tgt := 698) hx hb dL_law_40 (by decide) (by decide) (by decide +kernel) (by decide) (arm_8 X hi hcs h kk)
  · exact lv_tableIn (off := 714) (tgt := 754) hx hb dL_law_40 (by decide) (by decide) (by decide +kernel) (by decide) (arm_9 X hi hcs h kk)
  · exact lv_tableIn (off := 770) (tgt := 810) hx hb dL_law_40 (by decide) (by decide) (by decide +kernel) (by decide) (arm_10 X hi hcs h kk)
  · exact lv_tableIn (off := 783) (tgt := 823) hx hb dL_law_40 (by decide) (by decide) (by decide +kernel) (by decide) (arm_11 X hi hcs h kk)
  · exact lv_tableIn (off := 796) (tgt := 836) hx hb dL_law_40 (by decide) (by decide) (by decide +kernel) (by decide) (arm_12 X hi hcs h kk)
  · exact lv_tableIn (off := 809) (tgt := 849) hx hb dL_law_40 (by decide) (by decide) (by decide +kernel) (by decide) (arm_13 X hi hcs h kk)
  · exact lv_tableIn (off := 822) (tgt := 862) hx hb dL_law_40 (by decide) (by decide) (by decide +kernel) (by decide) (arm_14 X hi hcs h kk)
  · exact lv_tableIn (off := 897) (tgt := 937) hx hb dL_law_40 (by decide) (by decide) (by decide +kernel) (by decide) (arm_15 X hi hcs h kk)
  · exact lv_tableIn (off := 953) (tgt := 993) hx hb dL_law_40 (by decide) (by decide) (by decide +kernel) (by decide) (arm_16 X hi hcs h kk)
  · exact lv_tableIn (off := 1009) (tgt := 1049) hx hb dL_law_40 (by decide) (by decide) (by decide +kernel) (by decide) (arm_17 X hi hcs h kk)
  · exact lv_tableIn (off := 1022) (tgt := 1062) hx hb dL_law_40 (by decide) (by decide) (by decide +kernel) (by decide) (arm_18 X hi hcs h kk)
  · exact lv_tableIn (off := 1035) (tgt := 1075) hx hb dL_law_40 (by decide) (by decide) (by decide +kernel) (by decide) (arm_19 X hi hcs h kk)
  · exact lv_tableIn (off := 1091) (tgt := 1131) hx hb dL_law_40 (by decide) (by decide) (by decide +kernel) (by decide) (arm_20 X hi hcs h kk)
  · exact lv_tableIn (off := 1147) (tgt := 1187) hx hb dL_law_40 (by decide) (by decide) (by decide +kernel) (by decide) (arm_21 X hi hcs h kk)
  · exact lv_tableIn (off := 1203) (tgt := 1243) hx hb dL_law_40 (by decide) (by decide) (by decide +kernel) (by decide) (arm_22 X hi hcs h kk)
  · exact lv_tableIn (off := 1259) (tgt := 1299) hx hb dL_law_40 (by decide) (by decide) (by decide +kernel) (by decide) (arm_23 X hi hcs h kk)
  · exact lv_tableIn (off := 1322) (tgt := 1362) hx hb dL_law_40 (by decide) (by decide) (by decide +kernel) (by decide) (arm_24 X hi hcs h kk)
  · exact lv_tableIn (off := 1385) (tgt := 1425) hx hb dL_law_40 (by decide) (by decide) (by decide +kernel) (by decide) (arm_25 X hi hcs h kk)
  · exact lv_tableIn (off := 1448) (tgt := 1488) hx hb dL_law_40 (by decide) (by decide) (by decide +kernel) (by decide) (arm_26 X hi hcs h kk)
  · exact lv_tableIn (off := 1511) (tgt := 1551) hx hb dL_law_40 (by decide) (by decide) (by decide +kernel) (by decide) (arm_27 X hi hcs h kk)
  · exact lv_tableIn (off := 1567) (tgt := 1607) hx hb dL_law_40 (by decide) (by decide) (by decide +kernel) (by decide) (arm_28 X hi hcs h kk)
  · exact lv_tableIn (off := 1623) (tgt := 1663) hx hb dL_law_40 (by decide) (by decide) (by decide +kernel) (by decide) (arm_29 X hi hcs h kk)
  · exact lv_tableIn (off := 1691) (tgt := 1731) hx hb dL_law_40 (by decide) (by decide) (by decide +kernel) (by decide) (arm_30 X hi hcs h kk)
  · exact lv_tableIn (off := 1704) (tgt := 1744) hx hb dL_law_40 (by decide) (by decide) (by decide +kernel) (by decide) (arm_31 X hi hcs h kk)
  · exact lv_tableIn (off := 1717) (tgt := 1757) hx hb dL_law_40 (by decide) (by decide) (by decide +kernel) (by decide) (arm_32 X hi hcs h kk)
  · exact lv_tableIn (off := 1730) (tgt := 1770) hx hb dL_law_40 (by decide) (by decide) (by decide +kernel) (by decide) (arm_33 X hi hcs h kk)
  · exact lv_tableIn (off := 1743) (tgt := 1783) hx hb dL_law_40 (by decide) (by decide) (by decide +kernel) (by decide) (arm_34 X hi hcs h kk)
  · exact lv_tableIn (off := 1787) (tgt := 1827) hx hb dL_law_40 (by decide) (by decide) (by decide +kernel) (by decide) (arm_35 X hi hcs h kk)
  · exact lv_tableIn (off := 1831) (tgt := 1871) hx hb dL_law_40 (by decide) (by decide) (by decide +kernel) (by decide) (arm_36 X hi hcs h kk)
  · exact lv_tableIn (off := 1887) (tgt := 1927) hx hb dL_law_40 (by decide) (by decide) (by decide +kernel) (by decide) (arm_37 X hi hcs h kk)
  · exact lv_tableIn (off := 1900) (tgt := 1940) hx hb dL_law_40 (by decide) (by decide) (by decide +kernel) (by decide) (arm_38 X hi hcs h kk)
  · exact lv_tableIn (off := 1944) (tgt := 1984) hx hb dL_law_40 (by decide) (by decide) (by decide +kernel) (by decide) (arm_39 X hi hcs h kk)
  · exact lv_tableIn (off := 2000) (tgt := 2040) hx hb dL_law_40 (by decide) (by decide) (by decide +kernel) (by decide) (arm_40 X hi hcs h kk)
  · exact lv_tableIn (off := 2056) (tgt := 2096) hx hb dL_law_40 (by decide) (by decide) (by decide +kernel) (by decide) (arm_41 X hi hcs h kk)
  · exact lv_tableIn (off := 2112) (tgt := 2152) hx hb dL_law_40 (by decide) (by decide) (by decide +kernel) (by decide) (arm_42 X hi hcs h kk)
  · exact lv_tableIn (off := 2125) (tgt := 2165) hx hb dL_law_40 (by decide) (by decide) (by decide +kernel) (by decide) (arm_43 X hi hcs h kk)
  · exact lv_tableIn (off := 2138) (tgt := 2178) hx hb dL_law_40 (by decide) (by decide) (by decide +kernel) (by decide) (arm_44 X hi hcs h kk)
  · exact lv_tableIn (off := 2151) (tgt := 2191) hx hb dL_law_40 (by decide) (by decide) (by decide +kernel) (by decide) (arm_45 X hi hcs h kk)
  · exact lv_tableIn (off := 2192) (tgt := 2232) hx hb dL_law_40 (by decide) (by decide) (by decide +kernel) (by decide) (arm_46 X hi hcs h kk)
  · exact lv_tableIn (off := 2235) (tgt := 2275) hx hb dL_law_40 (by decide) (by decide) (by decide +kernel) (by decide) (arm_47 X hi hcs h kk)
  · exact lv_tableIn (off := 2248) (tgt := 2288) hx hb dL_law_40 (by decide) (by decide) (by decide +kernel) (by decide) (arm_48 X hi hcs h kk)
  · exact lv_tableIn (off := 2304) (tgt := 2344) hx hb dL_law_40 (by decide) (by decide) (by decide +kernel) (by decide) (arm_49 X hi hcs h kk)
  · exact lv_tableIn (off := 2367) (tgt := 2407) hx hb dL_law_40 (by decide) (by decide) (by decide +kernel) (by decide) (arm_50 X hi hcs h kk)
  · exact lv_tableIn (off := 2447) (tgt := 2487) hx hb dL_law_40 (by decide) (by decide) (by decide +kernel) (by decide) (arm_51 X hi hcs h kk)
  · exact lv_tableIn (off := 2503) (tgt := 2543) hx hb dL_law_40 (by decide) (by decide) (by decide +kernel) (by decide) (arm_52 X hi hcs h kk)
  · exact lv_tableIn (off := 2571) (tgt := 2611) hx hb dL_law_40 (by decide) (by decide) (by decide +kernel) (by decide) (arm_53 X hi hcs h kk)
  · exact lv_tableIn (off := 2639) (tgt := 2679) hx hb dL_law_40 (by decide) (by decide) (by decide +kernel) (by decide) (arm_54 X hi hcs h kk)
  · exact lv_tableIn (off := 2707) (tgt := 2747) hx hb dL_law_40 (by decide) (by decide) (by decide +kernel) (by decide) (arm_55 X hi hcs h kk)
  · exact lv_tableIn (off := 2763) (tgt := 2803) hx hb dL_law_40 (by decide) (by decide) (by decide +kernel) (by decide) (arm_56 X hi hcs h kk)
  · exact lv_tableIn (off := 2819) (tgt := 2859) hx hb dL_law_40 (by decide) (by decide) (by decide +kernel) (by decide) (arm_57 X hi hcs h kk)
  · exact lv_tableIn (off := 2875) (tgt := 2915) hx hb dL_law_40 (by decide) (by decide) (by decide +kernel) (by decide) (arm_58 X hi hcs h kk)
  · exact lv_tableIn (off := 2931) (tgt := 2971) hx hb dL_law_40 (by decide) (by decide) (by decide +kernel) (by decide) (arm_59 X hi hcs h kk)
  · exact lv_tableIn (off := 2975) (tgt := 3015) hx hb dL_law_40 (by decide) (by decide) (by decide +kernel) (by decide) (arm_60 X hi hcs h kk)
  · exact lv_tableIn (off := 3031) (tgt := 3071) hx hb dL_law_40 (by decide) (by decide) (by decide +kernel) (by decide) (arm_61 X hi hcs h kk)
  · exact lv_tableIn (off := 3087) (tgt := 3127) hx hb dL_law_40 (by decide) (by decide) (by decide +kernel) (by decide) (arm_62 X hi hcs h kk)
  · exact lv_tableIn (off := 3143) (tgt := 3183) hx hb dL_law_40 (by decide) (by decide) (by decide +kernel) (by decide) (arm_63 X hi hcs h kk)
theorem loopX (X : LCX p l s m args c D T aK aV A sc L xs) (hend : ∀ (H : Heap) (locs : List Loc) (ls : Array Slot), va_S A s.heap H locs → W p l e room_1 s m args below meth c H locs 601024 7293034 Q (F0 m 3245 ls [])) : ∀ (n i : Nat) {H : Heap} {locs : List Loc} {ls : Array Slot} {cells slots : Nat}, L < i + 6 * n + 6 → i + 6 * n ≤ 3072 → cells + 5 * n ≤ 601024 → slots + 30 * n ≤ 7293034 → LST s D T A sc v B b ob i H locs ls → W p l e room_1 s m args below meth c H locs cells slots Q (F0 m 23 ls []) := by
  obtain ⟨hl9, hx, hb, hml, hown, hts, hX, hsc, hscA, hA, hC, hN, hK, hL⟩ := id X
  intro n
  induction n with
  | zero =>
    intro i H locs ls cells slots h1 h2 h3 h4 h
    obtain ⟨O, g, ln, un, nx, pl, f0, f1, f2, y, w, fo, hP, hD, hS, hG, hl⟩ := id h
    refine lv_iload hx hb dL_law_23 (lv_at hl 4 rfl) ?_
    refine lv_aload_n hx hb dL_law_25 rfl (lv_at hl 0 rfl) ?_
    refine va_slen hx hb hX hsc hscA hS dL_law_26 ?_
    refine lv_bipush (v := 6) hx hb dL_law_27 (by decide) ?_
    refine lv_isub hx hb dL_law_29 ?_
    refine lv_icmp_gt (tgt := 3245) hx hb dL_law_30 (by decide) (fun _ => ?_) (fun q => absurd ((ltL6 (by omega) (by omega)).mpr (by omega)) q)
    exact W.widen (by omega) (by omega) (hend _ _ _ hS)
  | succ n ih =>
    intro i H locs ls cells slots h1 h2 h3 h4 h
    obtain ⟨O, g, ln, un, nx, pl, f0, f1, f2, y, w, fo, hP, hD, hS, hG, hl⟩ := id h
    obtain ⟨z0, hz0⟩ : ∃ z, xs i = z := ⟨_, rfl⟩
    obtain ⟨k, hk, ek⟩ := and63 z0
    refine lv_iload hx hb dL_law_23 (lv_at hl 4 rfl) ?_
    refine lv_aload_n hx hb dL_law_25 rfl (lv_at hl 0 rfl) ?_
    refine va_slen hx hb hX hsc hscA hS dL_law_26 ?_
    refine lv_bipush (v := 6) hx hb dL_law_27 (by decide) ?_
    refine lv_isub hx hb dL_law_29 ?_
    refine lv_icmp_gt (tgt := 3245) hx hb dL_law_30 (by decide) (fun _ => ?_) (fun q => ?_)
    · exact W.widen (by omega) (by omega) (hend _ _ _ hS)
    have hi : i + 6 ≤ L := Nat.le_of_not_lt (fun q1 => q ((ltL6 (by omega) (by omega)).mpr q1))
    refine lv_aload_n hx hb dL_law_33 rfl (lv_at hl 0 rfl) ?_
    refine lv_iload hx hb dL_law_34 (lv_at hl 4 rfl) ?_
    refine sldN hx hb hX hsc hscA hS hz0 (by omega) hL dL_law_36 ?_
    refine lv_bipush (v := 63) hx hb dL_law_37 (by decide) ?_
    refine lv_iand hx hb dL_law_39 ?_
    refine endI ek ?_
    refine armX X hi ⟨Nat.le_trans (by omega) hroomC, Nat.le_trans (by omega) hroomS⟩ h (fun H locs ls h => ?_) hk
    obtain ⟨O, g, ln, un, nx, pl, f0, f1, f2, y, w, fo, hP, hD, hS, hG, hl⟩ := h
    refine lv_iinc (v := nI (i + 6)) (lv' := [(4, .int (nI (i + 6))), (0, .ref sc), (1, .ref (v 0)), (2, .ref (b 0)), (3, .ref ob)]) hx hb dL_law_3239 hl (k := 4) rfl (nI_add i 6) (by decide) rfl (fun ls hl => ?_)
    refine lv_goto (tgt := 23) hx hb dL_law_3242 (by decide) ?_
    exact ih (i + 6) (by omega) (by omega) (by omega) (by omega) ⟨O, g, ln, un, nx, pl, f0, f1, f2, y, w, fo, hP, hD, hS, hG, lv_sub hl [1, 2, 3, 4, 0] rfl⟩
end LOO
