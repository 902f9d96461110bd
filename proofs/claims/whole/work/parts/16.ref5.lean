set_option maxHeartbeats 4000000 in
set_option maxRecDepth 100000 in
theorem c_X10_fileComplaint (l : Launch) (D : va_G) (T : Nat → ClassId) (b : Nat → Nat) (y : Nat → Nat → Int32) (w : Int64) (z : Int32) (z1 : Int32) (z2 : Int32) (N : Nat) (K : Nat) (C : Nat) (nt : Nat) (u : Nat) (hRI : RI (y 1) N K C nt) (hu : y 0 0 = nI u) (hu8 : u ≤ 8) (sz : Nat) : Met l yX10_fileComplaint wsX10_fileComplaint ({ frames := 4, cells := 0, slots := 0, locals := 86 } : Room) (va_Pc [.ref (b 0), .int (z), .int (z1), .int (z2)] (PS D T (REF T b y w) sz)) (va_Qi (fun r9 (_ : Unit) => r9 = (if fileCode (y 1) N z z1 z2 = 0 then nI N else 0)) (fun _ t => QS D T (va_A (REF T b y w) sz) (REF T b (if fileCode (y 1) N z z1 z2 = 0 then va_up (rKeep (yS y 3 0)) 1 (rFiles (y 1) N z z1 z2) else yS y 3 (fileCode (y 1) N z z1 z2)) w) t) (va_A (REF T b y w) sz)) 0 0 (va_A (REF T b y w) sz) := by
  refine metSi (cc := cX10_fileComplaint) (maxL := 4) (ty := .int) (by decide) rfl (by rfl) (Nat.le_of_ble_eq_true rfl) ?_
  intro p e s m args below meth c Q ls A hx hb hml hown hts hP hK hD hA hS hl hret
  have hown : s.vm.findClass RX10 = some m.cls := hown
  have hl : lv_has ls 4 [(0, .ref (b 0)), (1, .int (z)), (2, .int (z1)), (3, .int (z2))] := hl
  have i10 : ∀ w ∈ wsX100, w ∈ wsX10_fileComplaint := by decide +kernel
  have w1 := hts (Cond.fieldLink RX10 51 "MoonComplaintWindowModel" "thrown" "I") (List.mem_of_getElem? (i := 1) rfl)
  have w2 := hts (Cond.fieldLink RX10 7 "MoonComplaintWindowModel" "now" "[I") (List.mem_of_getElem? (i := 2) rfl)
  obtain ⟨hN, hN2, hKn, hK2, hC, hC1, hC2, hn, hnt, hSo, hSK⟩ := id hRI
  refine lv_aload_n hx hb dX10_fileComplaint_0 rfl (lv_at hl 0 rfl) ?_
  refine lv_iconst (v := 0) hx hb dX10_fileComplaint_1 (by decide) ?_
  refine va_put (D := D) (ci := 10) (v := .int (0)) (ty := .int) (C := RX10) (T := TX10) (N := 19) hx hb hts i10 tyX10 tyX10_ok nmX10 hown hK hP hD hS 0 rfl rfl 10 (by decide) w1 (fun _ h9 => h9) rfl (by decide +kernel) rfl rfl (Nat.le_of_ble_eq_true rfl) dX10_fileComplaint_2 (fun H locs hP hD hS => ?_)
  have hP : va_P D vwCl (REF T b (yS y 3 0) w) H := hP
  have hD : va_D A (REF T b (yS y 3 0) w) := hD
  refine lv_iload_n hx hb dX10_fileComplaint_5 rfl (lv_at hl 1 rfl) ?_
  refine rdT (As := [.int (z)]) (rest := []) ⟨hx, hb, hml, hown, hts⟩ (c_X10_isPerson l D T z ) (va_cwS 1 hts gX10_fileComplaint_X10_isPerson rfl rfl rfl (by decide +kernel) ⟨Nat.le_of_ble_eq_true rfl, Nat.le_of_ble_eq_true rfl⟩) rfl hl.1 rfl (Nat.le_of_ble_eq_true rfl) ⟨Nat.zero_le _, Nat.zero_le _⟩ dX10_fileComplaint_6 ?_
  refine lv_if_ne (tgt := 18) hx hb dX10_fileComplaint_9 (by decide) (fun c9 => ?_) (fun c9 => ?_)
  ·
    have c9 := bI_n0.mp c9
    refine lv_iload_n hx hb dX10_fileComplaint_18 rfl (lv_at hl 2 rfl) ?_
    refine rdT (As := [.int (z1)]) (rest := []) ⟨hx, hb, hml, hown, hts⟩ (c_X10_isSort l D T z1 ) (va_cwS 1 hts gX10_fileComplaint_X10_isSort rfl rfl rfl (by decide +kernel) ⟨Nat.le_of_ble_eq_true rfl, Nat.le_of_ble_eq_true rfl⟩) rfl hl.1 rfl (Nat.le_of_ble_eq_true rfl) ⟨Nat.zero_le _, Nat.zero_le _⟩ dX10_fileComplaint_19 ?_
    refine lv_if_ne (tgt := 31) hx hb dX10_fileComplaint_22 (by decide) (fun c22 => ?_) (fun c22 => ?_)
    ·
      have c22 := bI_n0.mp c22
      refine lv_iload_n hx hb dX10_fileComplaint_31 rfl (lv_at hl 3 rfl) ?_
      refine lv_iconst (v := 1) hx hb dX10_fileComplaint_32 (by decide) ?_
      refine lv_bipush (v := 9) hx hb dX10_fileComplaint_33 (by decide) ?_
      refine rdT (As := [.int (z2), .int (1), .int (9)]) (rest := []) ⟨hx, hb, hml, hown, hts⟩ (c_X10_in l D T z2 1 9 ) (va_cwS 3 hts gX10_fileComplaint_X10_in rfl rfl rfl (by decide +kernel) ⟨Nat.le_of_ble_eq_true rfl, Nat.le_of_ble_eq_true rfl⟩) rfl hl.1 rfl (Nat.le_of_ble_eq_true rfl) ⟨Nat.zero_le _, Nat.zero_le _⟩ dX10_fileComplaint_35 ?_
      refine lv_if_ne (tgt := 47) hx hb dX10_fileComplaint_38 (by decide) (fun c38 => ?_) (fun c38 => ?_)
      ·
        have c38 := bI_n0.mp c38
        refine lv_aload_n hx hb dX10_fileComplaint_47 rfl (lv_at hl 0 rfl) ?_
        refine va_get (D := D) (ci := 10) (v := .ref (b 1)) (C := RX10) (T := TX10) (N := 19) hx hb hts i10 hown hK hP 0 rfl rfl 0 (by decide) w2 (fun _ h9 => h9) rfl dX10_fileComplaint_48 ?_
        refine lv_bipush (v := 6) hx hb dX10_fileComplaint_51 (by decide) ?_
        refine aldI hx hb hK hP 1 0 rfl rfl (6) rfl (by omega) (by decide) dX10_fileComplaint_53 ?_
        refine endI (r := nI N) (hN) ?_
        refine lv_bipush (v := 24) hx hb dX10_fileComplaint_54 (by decide) ?_
        refine lv_icmp_ne (tgt := 65) hx hb dX10_fileComplaint_56 (by decide) (fun c56 => ?_) (fun c56 => ?_)
        ·
          have c56 : ¬ N = 24 := fun h9 => c56 ((nI_eq (a := N) (b := 24) (by omega) (by omega)).mpr h9)
          refine lv_aload_n hx hb dX10_fileComplaint_65 rfl (lv_at hl 0 rfl) ?_
          refine va_get (D := D) (ci := 10) (v := .ref (b 1)) (C := RX10) (T := TX10) (N := 19) hx hb hts i10 hown hK hP 0 rfl rfl 0 (by decide) w2 (fun _ h9 => h9) rfl dX10_fileComplaint_66 ?_
          refine lv_iload_n hx hb dX10_fileComplaint_69 rfl (lv_at hl 1 rfl) ?_
          refine lv_iload_n hx hb dX10_fileComplaint_70 rfl (lv_at hl 2 rfl) ?_
          refine rdS (As := [.ref (b 1), .int (z), .int (z1)]) (rest := []) ⟨hx, hb, hml, hown, hts⟩ (c_X10_waitingBy l D T (b 1) (y 1) z z1 N hN hN2) (va_cwS 3 hts gX10_fileComplaint_X10_waitingBy rfl rfl rfl (by decide +kernel) ⟨Nat.le_of_ble_eq_true rfl, Nat.le_of_ble_eq_true rfl⟩) hK (hP.sub [1] rfl) rfl hl.1 rfl (Nat.le_of_ble_eq_true rfl) ⟨Nat.zero_le _, Nat.zero_le _⟩ dX10_fileComplaint_71 ?_
          refine lv_if_lt (tgt := 83) hx hb dX10_fileComplaint_74 (by decide) (fun c74 => ?_) (fun c74 => ?_)
          ·
            have c74 := (oI_lt (fun j h => by have := (findR_lt h).1; omega)).mp c74
            refine lv_aload_n hx hb dX10_fileComplaint_83 rfl (lv_at hl 0 rfl) ?_
            refine wrVv (As := []) (rest := []) ⟨hx, hb, hml, hown, hts⟩ (c_X10_keepsForUndo l D T b (yS y 3 0) w u hu hu8 _) (cwV 0 hts gX10_fileComplaint_X10_keepsForUndo rfl rfl rfl (by decide +kernel) ⟨Nat.le_of_ble_eq_true rfl, Nat.le_of_ble_eq_true rfl⟩) (Foc.rfl _ _) hK hP hD hS hA 0 rfl rfl rfl hl.1 rfl (Nat.le_of_ble_eq_true rfl) ⟨Nat.zero_le _, Nat.zero_le _⟩ dX10_fileComplaint_84 (fun H locs hP hD hS => ?_)
            have hP : va_P D vwCl (REF T b (rKeep (yS y 3 0)) w) H := hP
            have hD : va_D A (REF T b (rKeep (yS y 3 0)) w) := hD
            refine lv_aload_n hx hb dX10_fileComplaint_87 rfl (lv_at hl 0 rfl) ?_
            refine va_get (D := D) (ci := 10) (v := .ref (b 1)) (C := RX10) (T := TX10) (N := 19) hx hb hts i10 hown hK hP 0 rfl rfl 0 (by decide) w2 (fun _ h9 => h9) rfl dX10_fileComplaint_88 ?_
            refine lv_iload_n hx hb dX10_fileComplaint_91 rfl (lv_at hl 1 rfl) ?_
            refine lv_iload_n hx hb dX10_fileComplaint_92 rfl (lv_at hl 2 rfl) ?_
            refine lv_iload_n hx hb dX10_fileComplaint_93 rfl (lv_at hl 3 rfl) ?_
            refine wrSi (As := [.ref (b 1), .int (z), .int (z1), .int (z2)]) (rest := []) ⟨hx, hb, hml, hown, hts⟩ (c_X10_files l D T (b 1) ((rKeep (yS y 3 0)) 1) z z1 z2 N hN (by first | omega | assumption) _) (va_cwS 4 hts gX10_fileComplaint_X10_files rfl rfl rfl (by decide +kernel) ⟨Nat.le_of_ble_eq_true rfl, Nat.le_of_ble_eq_true rfl⟩) (show Foc (REF T b (rKeep (yS y 3 0)) w) _ (REF T b (va_up (rKeep (yS y 3 0)) 1 (rFiles ((rKeep (yS y 3 0)) 1) N z z1 z2)) w) _ from Foc.one 1 rfl) hK hP hD hS hA rfl hl.1 rfl (Nat.le_of_ble_eq_true rfl) ⟨Nat.zero_le _, Nat.zero_le _⟩ dX10_fileComplaint_94 (fun H locs hP hD hS => ?_)
            have hP : va_P D vwCl (REF T b (va_up (rKeep (yS y 3 0)) 1 (rFiles ((rKeep (yS y 3 0)) 1) N z z1 z2)) w) H := hP
            have hD : va_D A (REF T b (va_up (rKeep (yS y 3 0)) 1 (rFiles ((rKeep (yS y 3 0)) 1) N z z1 z2)) w) := hD
            refine endI (r := if fileCode (y 1) N z z1 z2 = 0 then nI N else 0) (by first | (simp [fileCode, c9, c22, c38, c56, c74]; done) | (simp [fileCode, hjj, c9, c22, c38, c56, c74]; done)) ?_
            have hE : (va_up (rKeep (yS y 3 0)) 1 (rFiles ((rKeep (yS y 3 0)) 1) N z z1 z2)) = (if fileCode (y 1) N z z1 z2 = 0 then va_up (rKeep (yS y 3 0)) 1 (rFiles (y 1) N z z1 z2) else yS y 3 (fileCode (y 1) N z z1 z2)) := by first | (simp [fileCode, yS_same, c9, c22, c38, c56, c74]; done) | (simp [fileCode, yS_same, hjj, c9, c22, c38, c56, c74]; done) | (rw [if_pos (show fileCode (y 1) N z z1 z2 = 0 from by simp [fileCode, c9, c22, c38, c56, c74])]; rfl)
            exact hret _ _ _ _ dX10_fileComplaint_97 (by rw [← hE]; exact hP) (by rw [← hE]; exact hD) hS
          ·
            obtain ⟨jj, hjj⟩ := oI_some c74
            refine lv_aload_n hx hb dX10_fileComplaint_77 rfl (lv_at hl 0 rfl) ?_
            refine lv_iconst (v := 2) hx hb dX10_fileComplaint_78 (by decide) ?_
            refine wrVi (As := [.int (2)]) (rest := []) ⟨hx, hb, hml, hown, hts⟩ (c_X10_fails l D T b (yS y 3 0) w 2 _) (cwV 1 hts gX10_fileComplaint_X10_fails rfl rfl rfl (by decide +kernel) ⟨Nat.le_of_ble_eq_true rfl, Nat.le_of_ble_eq_true rfl⟩) (Foc.rfl _ _) hK hP hD hS hA 0 rfl rfl rfl hl.1 rfl (Nat.le_of_ble_eq_true rfl) ⟨Nat.zero_le _, Nat.zero_le _⟩ dX10_fileComplaint_79 (fun H locs hP hD hS => ?_)
            have hP : va_P D vwCl (REF T b (yS (yS y 3 0) 3 2) w) H := hP
            have hD : va_D A (REF T b (yS (yS y 3 0) 3 2) w) := hD
            refine endI (r := if fileCode (y 1) N z z1 z2 = 0 then nI N else 0) (by first | (simp [fileCode, c9, c22, c38, c56, c74]; done) | (simp [fileCode, hjj, c9, c22, c38, c56, c74]; done)) ?_
            have hE : (yS (yS y 3 0) 3 2) = (if fileCode (y 1) N z z1 z2 = 0 then va_up (rKeep (yS y 3 0)) 1 (rFiles (y 1) N z z1 z2) else yS y 3 (fileCode (y 1) N z z1 z2)) := by first | (simp [fileCode, yS_same, c9, c22, c38, c56, c74]; done) | (simp [fileCode, yS_same, hjj, c9, c22, c38, c56, c74]; done) | (rw [if_pos (show fileCode (y 1) N z z1 z2 = 0 from by simp [fileCode, c9, c22, c38, c56, c74])]; rfl)
            exact hret _ _ _ _ dX10_fileComplaint_82 (by rw [← hE]; exact hP) (by rw [← hE]; exact hD) hS
        ·
          have c56 : N = 24 := (nI_eq (a := N) (b := 24) (by omega) (by omega)).mp c56
          refine lv_aload_n hx hb dX10_fileComplaint_59 rfl (lv_at hl 0 rfl) ?_
          refine lv_iconst (v := 2) hx hb dX10_fileComplaint_60 (by decide) ?_
          refine wrVi (As := [.int (2)]) (rest := []) ⟨hx, hb, hml, hown, hts⟩ (c_X10_fails l D T b (yS y 3 0) w 2 _) (cwV 1 hts gX10_fileComplaint_X10_fails rfl rfl rfl (by decide +kernel) ⟨Nat.le_of_ble_eq_true rfl, Nat.le_of_ble_eq_true rfl⟩) (Foc.rfl _ _) hK hP hD hS hA 0 rfl rfl rfl hl.1 rfl (Nat.le_of_ble_eq_true rfl) ⟨Nat.zero_le _, Nat.zero_le _⟩ dX10_fileComplaint_61 (fun H locs hP hD hS => ?_)
          have hP : va_P D vwCl (REF T b (yS (yS y 3 0) 3 2) w) H := hP
          have hD : va_D A (REF T b (yS (yS y 3 0) 3 2) w) := hD
          refine endI (r := if fileCode (y 1) N z z1 z2 = 0 then nI N else 0) (by first | (simp [fileCode, c9, c22, c38, c56]; done) | (simp [fileCode, hjj, c9, c22, c38, c56]; done)) ?_
          have hE : (yS (yS y 3 0) 3 2) = (if fileCode (y 1) N z z1 z2 = 0 then va_up (rKeep (yS y 3 0)) 1 (rFiles (y 1) N z z1 z2) else yS y 3 (fileCode (y 1) N z z1 z2)) := by first | (simp [fileCode, yS_same, c9, c22, c38, c56]; done) | (simp [fileCode, yS_same, hjj, c9, c22, c38, c56]; done) | (rw [if_pos (show fileCode (y 1) N z z1 z2 = 0 from by simp [fileCode, c9, c22, c38, c56])]; rfl)
          exact hret _ _ _ _ dX10_fileComplaint_64 (by rw [← hE]; exact hP) (by rw [← hE]; exact hD) hS
      ·
        have c38 := bI_0.mp c38
        refine lv_aload_n hx hb dX10_fileComplaint_41 rfl (lv_at hl 0 rfl) ?_
        refine lv_iconst (v := 1) hx hb dX10_fileComplaint_42 (by decide) ?_
        refine wrVi (As := [.int (1)]) (rest := []) ⟨hx, hb, hml, hown, hts⟩ (c_X10_fails l D T b (yS y 3 0) w 1 _) (cwV 1 hts gX10_fileComplaint_X10_fails rfl rfl rfl (by decide +kernel) ⟨Nat.le_of_ble_eq_true rfl, Nat.le_of_ble_eq_true rfl⟩) (Foc.rfl _ _) hK hP hD hS hA 0 rfl rfl rfl hl.1 rfl (Nat.le_of_ble_eq_true rfl) ⟨Nat.zero_le _, Nat.zero_le _⟩ dX10_fileComplaint_43 (fun H locs hP hD hS => ?_)
        have hP : va_P D vwCl (REF T b (yS (yS y 3 0) 3 1) w) H := hP
        have hD : va_D A (REF T b (yS (yS y 3 0) 3 1) w) := hD
        refine endI (r := if fileCode (y 1) N z z1 z2 = 0 then nI N else 0) (by first | (simp [fileCode, c9, c22, c38]; done) | (simp [fileCode, hjj, c9, c22, c38]; done)) ?_
        have hE : (yS (yS y 3 0) 3 1) = (if fileCode (y 1) N z z1 z2 = 0 then va_up (rKeep (yS y 3 0)) 1 (rFiles (y 1) N z z1 z2) else yS y 3 (fileCode (y 1) N z z1 z2)) := by first | (simp [fileCode, yS_same, c9, c22, c38]; done) | (simp [fileCode, yS_same, hjj, c9, c22, c38]; done) | (rw [if_pos (show fileCode (y 1) N z z1 z2 = 0 from by simp [fileCode, c9, c22, c38])]; rfl)
        exact hret _ _ _ _ dX10_fileComplaint_46 (by rw [← hE]; exact hP) (by rw [← hE]; exact hD) hS
    ·
      have c22 := bI_0.mp c22
      refine lv_aload_n hx hb dX10_fileComplaint_25 rfl (lv_at hl 0 rfl) ?_
      refine lv_iconst (v := 1) hx hb dX10_fileComplaint_26 (by decide) ?_
      refine wrVi (As := [.int (1)]) (rest := []) ⟨hx, hb, hml, hown, hts⟩ (c_X10_fails l D T b (yS y 3 0) w 1 _) (cwV 1 hts gX10_fileComplaint_X10_fails rfl rfl rfl (by decide +kernel) ⟨Nat.le_of_ble_eq_true rfl, Nat.le_of_ble_eq_true rfl⟩) (Foc.rfl _ _) hK hP hD hS hA 0 rfl rfl rfl hl.1 rfl (Nat.le_of_ble_eq_true rfl) ⟨Nat.zero_le _, Nat.zero_le _⟩ dX10_fileComplaint_27 (fun H locs hP hD hS => ?_)
      have hP : va_P D vwCl (REF T b (yS (yS y 3 0) 3 1) w) H := hP
      have hD : va_D A (REF T b (yS (yS y 3 0) 3 1) w) := hD
      refine endI (r := if fileCode (y 1) N z z1 z2 = 0 then nI N else 0) (by first | (simp [fileCode, c9, c22]; done) | (simp [fileCode, hjj, c9, c22]; done)) ?_
      have hE : (yS (yS y 3 0) 3 1) = (if fileCode (y 1) N z z1 z2 = 0 then va_up (rKeep (yS y 3 0)) 1 (rFiles (y 1) N z z1 z2) else yS y 3 (fileCode (y 1) N z z1 z2)) := by first | (simp [fileCode, yS_same, c9, c22]; done) | (simp [fileCode, yS_same, hjj, c9, c22]; done) | (rw [if_pos (show fileCode (y 1) N z z1 z2 = 0 from by simp [fileCode, c9, c22])]; rfl)
      exact hret _ _ _ _ dX10_fileComplaint_30 (by rw [← hE]; exact hP) (by rw [← hE]; exact hD) hS
  ·
    have c9 := bI_0.mp c9
    refine lv_aload_n hx hb dX10_fileComplaint_12 rfl (lv_at hl 0 rfl) ?_
    refine lv_iconst (v := 1) hx hb dX10_fileComplaint_13 (by decide) ?_
    refine wrVi (As := [.int (1)]) (rest := []) ⟨hx, hb, hml, hown, hts⟩ (c_X10_fails l D T b (yS y 3 0) w 1 _) (cwV 1 hts gX10_fileComplaint_X10_fails rfl rfl rfl (by decide +kernel) ⟨Nat.le_of_ble_eq_true rfl, Nat.le_of_ble_eq_true rfl⟩) (Foc.rfl _ _) hK hP hD hS hA 0 rfl rfl rfl hl.1 rfl (Nat.le_of_ble_eq_true rfl) ⟨Nat.zero_le _, Nat.zero_le _⟩ dX10_fileComplaint_14 (fun H locs hP hD hS => ?_)
    have hP : va_P D vwCl (REF T b (yS (yS y 3 0) 3 1) w) H := hP
    have hD : va_D A (REF T b (yS (yS y 3 0) 3 1) w) := hD
    refine endI (r := if fileCode (y 1) N z z1 z2 = 0 then nI N else 0) (by first | (simp [fileCode, c9]; done) | (simp [fileCode, hjj, c9]; done)) ?_
    have hE : (yS (yS y 3 0) 3 1) = (if fileCode (y 1) N z z1 z2 = 0 then va_up (rKeep (yS y 3 0)) 1 (rFiles (y 1) N z z1 z2) else yS y 3 (fileCode (y 1) N z z1 z2)) := by first | (simp [fileCode, yS_same, c9]; done) | (simp [fileCode, yS_same, hjj, c9]; done) | (rw [if_pos (show fileCode (y 1) N z z1 z2 = 0 from by simp [fileCode, c9])]; rfl)
    exact hret _ _ _ _ dX10_fileComplaint_17 (by rw [← hE]; exact hP) (by rw [← hE]; exact hD) hS

set_option maxHeartbeats 4000000 in
set_option maxRecDepth 100000 in
theorem c_X10_giveUp (l : Launch) (D : va_G) (T : Nat → ClassId) (b : Nat → Nat) (y : Nat → Nat → Int32) (w : Int64) (z : Int32) (N : Nat) (K : Nat) (C : Nat) (nt : Nat) (u : Nat) (hRI : RI (y 1) N K C nt) (hu : y 0 0 = nI u) (hu8 : u ≤ 8) (sz : Nat) : Met l yX10_giveUp wsX10_giveUp ({ frames := 3, cells := 0, slots := 0, locals := 63 } : Room) (va_Pc [.ref (b 0), .int (z)] (PS D T (REF T b y w) sz)) (va_Qi (fun r9 (_ : Unit) => r9 = (if inN z N then (if y 1 (34 + 7 * z.toNatClampNeg + 4) = 0 then (rCloses (y 1) z.toNatClampNeg 3 (-1)) 0 - (rCloses (y 1) z.toNatClampNeg 3 (-1)) (34 + 7 * z.toNatClampNeg + 3) else 0) else 0)) (fun _ t => QS D T (va_A (REF T b y w) sz) (REF T b (if inN z N then (if y 1 (34 + 7 * z.toNatClampNeg + 4) = 0 then va_up (rKeep (yS y 3 0)) 1 (rCloses (y 1) z.toNatClampNeg 3 (-1)) else yS y 3 2) else yS y 3 1) w) t) (va_A (REF T b y w) sz)) 0 0 (va_A (REF T b y w) sz) := by
  refine metSi (cc := cX10_giveUp) (maxL := 2) (ty := .int) (by decide) rfl (by rfl) (Nat.le_of_ble_eq_true rfl) ?_
  intro p e s m args below meth c Q ls A hx hb hml hown hts hP hK hD hA hS hl hret
  have hown : s.vm.findClass RX10 = some m.cls := hown
  have hl : lv_has ls 2 [(0, .ref (b 0)), (1, .int (z))] := hl
  have i10 : ∀ w ∈ wsX100, w ∈ wsX10_giveUp := by decide +kernel
  have w1 := hts (Cond.fieldLink RX10 51 "MoonComplaintWindowModel" "thrown" "I") (List.mem_of_getElem? (i := 1) rfl)
  have w2 := hts (Cond.fieldLink RX10 7 "MoonComplaintWindowModel" "now" "[I") (List.mem_of_getElem? (i := 2) rfl)
  obtain ⟨hN, hN2, hKn, hK2, hC, hC1, hC2, hn, hnt, hSo, hSK⟩ := id hRI
  refine lv_aload_n hx hb dX10_giveUp_0 rfl (lv_at hl 0 rfl) ?_
  refine lv_iconst (v := 0) hx hb dX10_giveUp_1 (by decide) ?_
  refine va_put (D := D) (ci := 10) (v := .int (0)) (ty := .int) (C := RX10) (T := TX10) (N := 19) hx hb hts i10 tyX10 tyX10_ok nmX10 hown hK hP hD hS 0 rfl rfl 10 (by decide) w1 (fun _ h9 => h9) rfl (by decide +kernel) rfl rfl (Nat.le_of_ble_eq_true rfl) dX10_giveUp_2 (fun H locs hP hD hS => ?_)
  have hP : va_P D vwCl (REF T b (yS y 3 0) w) H := hP
  have hD : va_D A (REF T b (yS y 3 0) w) := hD
  refine lv_aload_n hx hb dX10_giveUp_5 rfl (lv_at hl 0 rfl) ?_
  refine lv_iload_n hx hb dX10_giveUp_6 rfl (lv_at hl 1 rfl) ?_
  refine rdV (As := [.int (z)]) (rest := []) ⟨hx, hb, hml, hown, hts⟩ (c_X10_isComplaint l D T b (yS y 3 0) w z N hN hN2) (cwV 1 hts gX10_giveUp_X10_isComplaint rfl rfl rfl (by decide +kernel) ⟨Nat.le_of_ble_eq_true rfl, Nat.le_of_ble_eq_true rfl⟩) hK hP 0 rfl rfl rfl hl.1 rfl (Nat.le_of_ble_eq_true rfl) ⟨Nat.zero_le _, Nat.zero_le _⟩ dX10_giveUp_7 ?_
  refine lv_if_ne (tgt := 19) hx hb dX10_giveUp_10 (by decide) (fun c10 => ?_) (fun c10 => ?_)
  ·
    have c10 := bI_n0.mp c10
    obtain ⟨j, hj, hjz, hjc⟩ := inN_t (by omega) c10
    rw [hjz] at hl
    have hl : lv_has ls 2 [(0, .ref (b 0)), (1, .int (nI j))] := hl
    refine lv_aload_n hx hb dX10_giveUp_19 rfl (lv_at hl 0 rfl) ?_
    refine va_get (D := D) (ci := 10) (v := .ref (b 1)) (C := RX10) (T := TX10) (N := 19) hx hb hts i10 hown hK hP 0 rfl rfl 0 (by decide) w2 (fun _ h9 => h9) rfl dX10_giveUp_20 ?_
    refine lv_iload_n hx hb dX10_giveUp_23 rfl (lv_at hl 1 rfl) ?_
    refine rdS (As := [.ref (b 1), .int (nI j)]) (rest := []) ⟨hx, hb, hml, hown, hts⟩ (c_X10_waits l D T (b 1) (y 1) j (by first | omega | assumption | decide)) (va_cwS 2 hts gX10_giveUp_X10_waits rfl rfl rfl (by decide +kernel) ⟨Nat.le_of_ble_eq_true rfl, Nat.le_of_ble_eq_true rfl⟩) hK (hP.sub [1] rfl) rfl hl.1 rfl (Nat.le_of_ble_eq_true rfl) ⟨Nat.zero_le _, Nat.zero_le _⟩ dX10_giveUp_24 ?_
    refine lv_if_ne (tgt := 36) hx hb dX10_giveUp_27 (by decide) (fun c27 => ?_) (fun c27 => ?_)
    ·
      have c27 := bI_n0.mp c27
      have c27 := of_decide_eq_true c27
      refine lv_aload_n hx hb dX10_giveUp_36 rfl (lv_at hl 0 rfl) ?_
      refine wrVv (As := []) (rest := []) ⟨hx, hb, hml, hown, hts⟩ (c_X10_keepsForUndo l D T b (yS y 3 0) w u hu hu8 _) (cwV 0 hts gX10_giveUp_X10_keepsForUndo rfl rfl rfl (by decide +kernel) ⟨Nat.le_of_ble_eq_true rfl, Nat.le_of_ble_eq_true rfl⟩) (Foc.rfl _ _) hK hP hD hS hA 0 rfl rfl rfl hl.1 rfl (Nat.le_of_ble_eq_true rfl) ⟨Nat.zero_le _, Nat.zero_le _⟩ dX10_giveUp_37 (fun H locs hP hD hS => ?_)
      have hP : va_P D vwCl (REF T b (rKeep (yS y 3 0)) w) H := hP
      have hD : va_D A (REF T b (rKeep (yS y 3 0)) w) := hD
      refine lv_aload_n hx hb dX10_giveUp_40 rfl (lv_at hl 0 rfl) ?_
      refine va_get (D := D) (ci := 10) (v := .ref (b 1)) (C := RX10) (T := TX10) (N := 19) hx hb hts i10 hown hK hP 0 rfl rfl 0 (by decide) w2 (fun _ h9 => h9) rfl dX10_giveUp_41 ?_
      refine lv_iload_n hx hb dX10_giveUp_44 rfl (lv_at hl 1 rfl) ?_
      refine lv_iconst (v := 3) hx hb dX10_giveUp_45 (by decide) ?_
      refine lv_iconst (v := -1) hx hb dX10_giveUp_46 (by decide) ?_
      refine wrSv (As := [.ref (b 1), .int (nI j), .int (3), .int (-1)]) (rest := []) ⟨hx, hb, hml, hown, hts⟩ (c_X10_closes l D T (b 1) ((rKeep (yS y 3 0)) 1) j 3 (-1) (by first | omega | assumption | decide) _) (va_cwS 4 hts gX10_giveUp_X10_closes rfl rfl rfl (by decide +kernel) ⟨Nat.le_of_ble_eq_true rfl, Nat.le_of_ble_eq_true rfl⟩) (show Foc (REF T b (rKeep (yS y 3 0)) w) _ (REF T b (va_up (rKeep (yS y 3 0)) 1 (rCloses ((rKeep (yS y 3 0)) 1) j 3 (-1))) w) _ from Foc.one 1 rfl) hK hP hD hS hA rfl hl.1 rfl (Nat.le_of_ble_eq_true rfl) ⟨Nat.zero_le _, Nat.zero_le _⟩ dX10_giveUp_47 (fun H locs hP hD hS => ?_)
      have hP : va_P D vwCl (REF T b (va_up (rKeep (yS y 3 0)) 1 (rCloses ((rKeep (yS y 3 0)) 1) j 3 (-1))) w) H := hP
      have hD : va_D A (REF T b (va_up (rKeep (yS y 3 0)) 1 (rCloses ((rKeep (yS y 3 0)) 1) j 3 (-1))) w) := hD
      refine lv_aload_n hx hb dX10_giveUp_50 rfl (lv_at hl 0 rfl) ?_
      refine va_get (D := D) (ci := 10) (v := .ref (b 1)) (C := RX10) (T := TX10) (N := 19) hx hb hts i10 hown hK hP 0 rfl rfl 0 (by decide) w2 (fun _ h9 => h9) rfl dX10_giveUp_51 ?_
      refine lv_iload_n hx hb dX10_giveUp_54 rfl (lv_at hl 1 rfl) ?_
      refine rdS (As := [.ref (b 1), .int (nI j)]) (rest := []) ⟨hx, hb, hml, hown, hts⟩ (c_X10_ageOf l D T (b 1) (rCloses ((rKeep (yS y 3 0)) 1) j 3 (-1)) j (by first | omega | assumption | decide)) (va_cwS 2 hts gX10_giveUp_X10_ageOf rfl rfl rfl (by decide +kernel) ⟨Nat.le_of_ble_eq_true rfl, Nat.le_of_ble_eq_true rfl⟩) hK (hP.sub [1] rfl) rfl hl.1 rfl (Nat.le_of_ble_eq_true rfl) ⟨Nat.zero_le _, Nat.zero_le _⟩ dX10_giveUp_55 ?_
      refine endI (r := if inN z N then (if y 1 (34 + 7 * z.toNatClampNeg + 4) = 0 then (rCloses (y 1) z.toNatClampNeg 3 (-1)) 0 - (rCloses (y 1) z.toNatClampNeg 3 (-1)) (34 + 7 * z.toNatClampNeg + 3) else 0) else 0) (by first | (simp [c10, c27]; done) | (rw [if_pos c10, hjc, if_neg c27]) | (rw [if_pos c10, hjc, if_pos c27]; rfl)) ?_
      have hE : (va_up (rKeep (yS y 3 0)) 1 (rCloses ((rKeep (yS y 3 0)) 1) j 3 (-1))) = (if inN z N then (if y 1 (34 + 7 * z.toNatClampNeg + 4) = 0 then va_up (rKeep (yS y 3 0)) 1 (rCloses (y 1) z.toNatClampNeg 3 (-1)) else yS y 3 2) else yS y 3 1) := by first | (simp [yS_same, c10, c27]; done) | (rw [yS_same, if_pos c10, hjc, if_neg c27]) | (rw [if_pos c10, hjc, if_pos c27]; rfl)
      exact hret _ _ _ _ dX10_giveUp_58 (by rw [← hE]; exact hP) (by rw [← hE]; exact hD) hS
    ·
      have c27 := bI_0.mp c27
      have c27 := of_decide_eq_false c27
      refine lv_aload_n hx hb dX10_giveUp_30 rfl (lv_at hl 0 rfl) ?_
      refine lv_iconst (v := 2) hx hb dX10_giveUp_31 (by decide) ?_
      refine wrVi (As := [.int (2)]) (rest := []) ⟨hx, hb, hml, hown, hts⟩ (c_X10_fails l D T b (yS y 3 0) w 2 _) (cwV 1 hts gX10_giveUp_X10_fails rfl rfl rfl (by decide +kernel) ⟨Nat.le_of_ble_eq_true rfl, Nat.le_of_ble_eq_true rfl⟩) (Foc.rfl _ _) hK hP hD hS hA 0 rfl rfl rfl hl.1 rfl (Nat.le_of_ble_eq_true rfl) ⟨Nat.zero_le _, Nat.zero_le _⟩ dX10_giveUp_32 (fun H locs hP hD hS => ?_)
      have hP : va_P D vwCl (REF T b (yS (yS y 3 0) 3 2) w) H := hP
      have hD : va_D A (REF T b (yS (yS y 3 0) 3 2) w) := hD
      refine endI (r := if inN z N then (if y 1 (34 + 7 * z.toNatClampNeg + 4) = 0 then (rCloses (y 1) z.toNatClampNeg 3 (-1)) 0 - (rCloses (y 1) z.toNatClampNeg 3 (-1)) (34 + 7 * z.toNatClampNeg + 3) else 0) else 0) (by first | (simp [c10, c27]; done) | (rw [if_pos c10, hjc, if_neg c27]) | (rw [if_pos c10, hjc, if_pos c27]; rfl)) ?_
      have hE : (yS (yS y 3 0) 3 2) = (if inN z N then (if y 1 (34 + 7 * z.toNatClampNeg + 4) = 0 then va_up (rKeep (yS y 3 0)) 1 (rCloses (y 1) z.toNatClampNeg 3 (-1)) else yS y 3 2) else yS y 3 1) := by first | (simp [yS_same, c10, c27]; done) | (rw [yS_same, if_pos c10, hjc, if_neg c27]) | (rw [if_pos c10, hjc, if_pos c27]; rfl)
      exact hret _ _ _ _ dX10_giveUp_35 (by rw [← hE]; exact hP) (by rw [← hE]; exact hD) hS
  ·
    have c10 := bI_0.mp c10
    refine lv_aload_n hx hb dX10_giveUp_13 rfl (lv_at hl 0 rfl) ?_
    refine lv_iconst (v := 1) hx hb dX10_giveUp_14 (by decide) ?_
    refine wrVi (As := [.int (1)]) (rest := []) ⟨hx, hb, hml, hown, hts⟩ (c_X10_fails l D T b (yS y 3 0) w 1 _) (cwV 1 hts gX10_giveUp_X10_fails rfl rfl rfl (by decide +kernel) ⟨Nat.le_of_ble_eq_true rfl, Nat.le_of_ble_eq_true rfl⟩) (Foc.rfl _ _) hK hP hD hS hA 0 rfl rfl rfl hl.1 rfl (Nat.le_of_ble_eq_true rfl) ⟨Nat.zero_le _, Nat.zero_le _⟩ dX10_giveUp_15 (fun H locs hP hD hS => ?_)
    have hP : va_P D vwCl (REF T b (yS (yS y 3 0) 3 1) w) H := hP
    have hD : va_D A (REF T b (yS (yS y 3 0) 3 1) w) := hD
    refine endI (r := if inN z N then (if y 1 (34 + 7 * z.toNatClampNeg + 4) = 0 then (rCloses (y 1) z.toNatClampNeg 3 (-1)) 0 - (rCloses (y 1) z.toNatClampNeg 3 (-1)) (34 + 7 * z.toNatClampNeg + 3) else 0) else 0) (by first | (simp [c10]; done) | (rw [if_pos c10, hjc, if_neg c27]) | (rw [if_pos c10, hjc, if_pos c27]; rfl)) ?_
    have hE : (yS (yS y 3 0) 3 1) = (if inN z N then (if y 1 (34 + 7 * z.toNatClampNeg + 4) = 0 then va_up (rKeep (yS y 3 0)) 1 (rCloses (y 1) z.toNatClampNeg 3 (-1)) else yS y 3 2) else yS y 3 1) := by first | (simp [yS_same, c10]; done) | (rw [yS_same, if_pos c10, hjc, if_neg c27]) | (rw [if_pos c10, hjc, if_pos c27]; rfl)
    exact hret _ _ _ _ dX10_giveUp_18 (by rw [← hE]; exact hP) (by rw [← hE]; exact hD) hS

set_option maxHeartbeats 4000000 in
set_option maxRecDepth 100000 in
theorem c_X10_addClerk (l : Launch) (D : va_G) (T : Nat → ClassId) (b : Nat → Nat) (y : Nat → Nat → Int32) (w : Int64) (z : Int32) (z1 : Int32) (N : Nat) (K : Nat) (C : Nat) (nt : Nat) (u : Nat) (hRI : RI (y 1) N K C nt) (hu : y 0 0 = nI u) (hu8 : u ≤ 8) (sz : Nat) : Met l yX10_addClerk wsX10_addClerk ({ frames := 2, cells := 0, slots := 0, locals := 45 } : Room) (va_Pc [.ref (b 0), .int (z), .int (z1)] (PS D T (REF T b y w) sz)) (va_Qi (fun r9 (_ : Unit) => r9 = (if rg z 1 9 && rg z1 0 99 then (if K = 5 then 0 else nI K) else 0)) (fun _ t => QS D T (va_A (REF T b y w) sz) (REF T b (if rg z 1 9 && rg z1 0 99 then (if K = 5 then yS y 3 2 else va_up (rKeep (yS y 3 0)) 1 (rAddsClerk (y 1) K z z1)) else yS y 3 1) w) t) (va_A (REF T b y w) sz)) 0 0 (va_A (REF T b y w) sz) := by
  refine metSi (cc := cX10_addClerk) (maxL := 3) (ty := .int) (by decide) rfl (by rfl) (Nat.le_of_ble_eq_true rfl) ?_
  intro p e s m args below meth c Q ls A hx hb hml hown hts hP hK hD hA hS hl hret
  have hown : s.vm.findClass RX10 = some m.cls := hown
  have hl : lv_has ls 3 [(0, .ref (b 0)), (1, .int (z)), (2, .int (z1))] := hl
  have i10 : ∀ w ∈ wsX100, w ∈ wsX10_addClerk := by decide +kernel
  have w1 := hts (Cond.fieldLink RX10 51 "MoonComplaintWindowModel" "thrown" "I") (List.mem_of_getElem? (i := 1) rfl)
  have w2 := hts (Cond.fieldLink RX10 7 "MoonComplaintWindowModel" "now" "[I") (List.mem_of_getElem? (i := 2) rfl)
  obtain ⟨hN, hN2, hKn, hK2, hC, hC1, hC2, hn, hnt, hSo, hSK⟩ := id hRI
  refine lv_aload_n hx hb dX10_addClerk_0 rfl (lv_at hl 0 rfl) ?_
  refine lv_iconst (v := 0) hx hb dX10_addClerk_1 (by decide) ?_
  refine va_put (D := D) (ci := 10) (v := .int (0)) (ty := .int) (C := RX10) (T := TX10) (N := 19) hx hb hts i10 tyX10 tyX10_ok nmX10 hown hK hP hD hS 0 rfl rfl 10 (by decide) w1 (fun _ h9 => h9) rfl (by decide +kernel) rfl rfl (Nat.le_of_ble_eq_true rfl) dX10_addClerk_2 (fun H locs hP hD hS => ?_)
  have hP : va_P D vwCl (REF T b (yS y 3 0) w) H := hP
  have hD : va_D A (REF T b (yS y 3 0) w) := hD
  refine lv_iload_n hx hb dX10_addClerk_5 rfl (lv_at hl 1 rfl) ?_
  refine lv_iconst (v := 1) hx hb dX10_addClerk_6 (by decide) ?_
  refine lv_bipush (v := 9) hx hb dX10_addClerk_7 (by decide) ?_
  refine rdT (As := [.int (z), .int (1), .int (9)]) (rest := []) ⟨hx, hb, hml, hown, hts⟩ (c_X10_in l D T z 1 9 ) (va_cwS 3 hts gX10_addClerk_X10_in rfl rfl rfl (by decide +kernel) ⟨Nat.le_of_ble_eq_true rfl, Nat.le_of_ble_eq_true rfl⟩) rfl hl.1 rfl (Nat.le_of_ble_eq_true rfl) ⟨Nat.zero_le _, Nat.zero_le _⟩ dX10_addClerk_9 ?_
  refine lv_if_ne (tgt := 21) hx hb dX10_addClerk_12 (by decide) (fun c12 => ?_) (fun c12 => ?_)
  ·
    have c12 := bI_n0.mp c12
    refine lv_iload_n hx hb dX10_addClerk_21 rfl (lv_at hl 2 rfl) ?_
    refine lv_iconst (v := 0) hx hb dX10_addClerk_22 (by decide) ?_
    refine lv_bipush (v := 99) hx hb dX10_addClerk_23 (by decide) ?_
    refine rdT (As := [.int (z1), .int (0), .int (99)]) (rest := []) ⟨hx, hb, hml, hown, hts⟩ (c_X10_in l D T z1 0 99 ) (va_cwS 3 hts gX10_addClerk_X10_in rfl rfl rfl (by decide +kernel) ⟨Nat.le_of_ble_eq_true rfl, Nat.le_of_ble_eq_true rfl⟩) rfl hl.1 rfl (Nat.le_of_ble_eq_true rfl) ⟨Nat.zero_le _, Nat.zero_le _⟩ dX10_addClerk_25 ?_
    refine lv_if_ne (tgt := 37) hx hb dX10_addClerk_28 (by decide) (fun c28 => ?_) (fun c28 => ?_)
    ·
      have c28 := bI_n0.mp c28
      refine lv_aload_n hx hb dX10_addClerk_37 rfl (lv_at hl 0 rfl) ?_
      refine va_get (D := D) (ci := 10) (v := .ref (b 1)) (C := RX10) (T := TX10) (N := 19) hx hb hts i10 hown hK hP 0 rfl rfl 0 (by decide) w2 (fun _ h9 => h9) rfl dX10_addClerk_38 ?_
      refine lv_iconst (v := 5) hx hb dX10_addClerk_41 (by decide) ?_
      refine aldI hx hb hK hP 1 0 rfl rfl (5) rfl (by omega) (by decide) dX10_addClerk_42 ?_
      refine endI (r := nI K) (hKn) ?_
      refine lv_iconst (v := 5) hx hb dX10_addClerk_43 (by decide) ?_
      refine lv_icmp_ne (tgt := 53) hx hb dX10_addClerk_44 (by decide) (fun c44 => ?_) (fun c44 => ?_)
      ·
        have c44 : ¬ K = 5 := fun h9 => c44 ((nI_eq (a := K) (b := 5) (by omega) (by omega)).mpr h9)
        refine lv_aload_n hx hb dX10_addClerk_53 rfl (lv_at hl 0 rfl) ?_
        refine wrVv (As := []) (rest := []) ⟨hx, hb, hml, hown, hts⟩ (c_X10_keepsForUndo l D T b (yS y 3 0) w u hu hu8 _) (cwV 0 hts gX10_addClerk_X10_keepsForUndo rfl rfl rfl (by decide +kernel) ⟨Nat.le_of_ble_eq_true rfl, Nat.le_of_ble_eq_true rfl⟩) (Foc.rfl _ _) hK hP hD hS hA 0 rfl rfl rfl hl.1 rfl (Nat.le_of_ble_eq_true rfl) ⟨Nat.zero_le _, Nat.zero_le _⟩ dX10_addClerk_54 (fun H locs hP hD hS => ?_)
        have hP : va_P D vwCl (REF T b (rKeep (yS y 3 0)) w) H := hP
        have hD : va_D A (REF T b (rKeep (yS y 3 0)) w) := hD
        refine lv_aload_n hx hb dX10_addClerk_57 rfl (lv_at hl 0 rfl) ?_
        refine va_get (D := D) (ci := 10) (v := .ref (b 1)) (C := RX10) (T := TX10) (N := 19) hx hb hts i10 hown hK hP 0 rfl rfl 0 (by decide) w2 (fun _ h9 => h9) rfl dX10_addClerk_58 ?_
        refine lv_iload_n hx hb dX10_addClerk_61 rfl (lv_at hl 1 rfl) ?_
        refine lv_iload_n hx hb dX10_addClerk_62 rfl (lv_at hl 2 rfl) ?_
        refine wrSi (As := [.ref (b 1), .int (z), .int (z1)]) (rest := []) ⟨hx, hb, hml, hown, hts⟩ (c_X10_addsClerk l D T (b 1) ((rKeep (yS y 3 0)) 1) z z1 K hKn (by first | omega | assumption) _) (va_cwS 3 hts gX10_addClerk_X10_addsClerk rfl rfl rfl (by decide +kernel) ⟨Nat.le_of_ble_eq_true rfl, Nat.le_of_ble_eq_true rfl⟩) (show Foc (REF T b (rKeep (yS y 3 0)) w) _ (REF T b (va_up (rKeep (yS y 3 0)) 1 (rAddsClerk ((rKeep (yS y 3 0)) 1) K z z1)) w) _ from Foc.one 1 rfl) hK hP hD hS hA rfl hl.1 rfl (Nat.le_of_ble_eq_true rfl) ⟨Nat.zero_le _, Nat.zero_le _⟩ dX10_addClerk_63 (fun H locs hP hD hS => ?_)
        have hP : va_P D vwCl (REF T b (va_up (rKeep (yS y 3 0)) 1 (rAddsClerk ((rKeep (yS y 3 0)) 1) K z z1)) w) H := hP
        have hD : va_D A (REF T b (va_up (rKeep (yS y 3 0)) 1 (rAddsClerk ((rKeep (yS y 3 0)) 1) K z z1)) w) := hD
        refine endI (r := if rg z 1 9 && rg z1 0 99 then (if K = 5 then 0 else nI K) else 0) (by first | (simp [c12, c28, c44]; done)) ?_
        have hE : (va_up (rKeep (yS y 3 0)) 1 (rAddsClerk ((rKeep (yS y 3 0)) 1) K z z1)) = (if rg z 1 9 && rg z1 0 99 then (if K = 5 then yS y 3 2 else va_up (rKeep (yS y 3 0)) 1 (rAddsClerk (y 1) K z z1)) else yS y 3 1) := by first | (simp [yS_same, c12, c28, c44]; done) | (rw [if_pos (by simp [c12, c28, c44]), if_neg c44]; rfl)
        exact hret _ _ _ _ dX10_addClerk_66 (by rw [← hE]; exact hP) (by rw [← hE]; exact hD) hS
      ·
        have c44 : K = 5 := (nI_eq (a := K) (b := 5) (by omega) (by omega)).mp c44
        refine lv_aload_n hx hb dX10_addClerk_47 rfl (lv_at hl 0 rfl) ?_
        refine lv_iconst (v := 2) hx hb dX10_addClerk_48 (by decide) ?_
        refine wrVi (As := [.int (2)]) (rest := []) ⟨hx, hb, hml, hown, hts⟩ (c_X10_fails l D T b (yS y 3 0) w 2 _) (cwV 1 hts gX10_addClerk_X10_fails rfl rfl rfl (by decide +kernel) ⟨Nat.le_of_ble_eq_true rfl, Nat.le_of_ble_eq_true rfl⟩) (Foc.rfl _ _) hK hP hD hS hA 0 rfl rfl rfl hl.1 rfl (Nat.le_of_ble_eq_true rfl) ⟨Nat.zero_le _, Nat.zero_le _⟩ dX10_addClerk_49 (fun H locs hP hD hS => ?_)
        have hP : va_P D vwCl (REF T b (yS (yS y 3 0) 3 2) w) H := hP
        have hD : va_D A (REF T b (yS (yS y 3 0) 3 2) w) := hD
        refine endI (r := if rg z 1 9 && rg z1 0 99 then (if K = 5 then 0 else nI K) else 0) (by first | (simp [c12, c28, c44]; done)) ?_
        have hE : (yS (yS y 3 0) 3 2) = (if rg z 1 9 && rg z1 0 99 then (if K = 5 then yS y 3 2 else va_up (rKeep (yS y 3 0)) 1 (rAddsClerk (y 1) K z z1)) else yS y 3 1) := by first | (simp [yS_same, c12, c28, c44]; done) | (rw [if_pos (by simp [c12, c28, c44]), if_neg c44]; rfl)
        exact hret _ _ _ _ dX10_addClerk_52 (by rw [← hE]; exact hP) (by rw [← hE]; exact hD) hS
    ·
      have c28 := bI_0.mp c28
      refine lv_aload_n hx hb dX10_addClerk_31 rfl (lv_at hl 0 rfl) ?_
      refine lv_iconst (v := 1) hx hb dX10_addClerk_32 (by decide) ?_
      refine wrVi (As := [.int (1)]) (rest := []) ⟨hx, hb, hml, hown, hts⟩ (c_X10_fails l D T b (yS y 3 0) w 1 _) (cwV 1 hts gX10_addClerk_X10_fails rfl rfl rfl (by decide +kernel) ⟨Nat.le_of_ble_eq_true rfl, Nat.le_of_ble_eq_true rfl⟩) (Foc.rfl _ _) hK hP hD hS hA 0 rfl rfl rfl hl.1 rfl (Nat.le_of_ble_eq_true rfl) ⟨Nat.zero_le _, Nat.zero_le _⟩ dX10_addClerk_33 (fun H locs hP hD hS => ?_)
      have hP : va_P D vwCl (REF T b (yS (yS y 3 0) 3 1) w) H := hP
      have hD : va_D A (REF T b (yS (yS y 3 0) 3 1) w) := hD
      refine endI (r := if rg z 1 9 && rg z1 0 99 then (if K = 5 then 0 else nI K) else 0) (by first | (simp [c12, c28]; done)) ?_
      have hE : (yS (yS y 3 0) 3 1) = (if rg z 1 9 && rg z1 0 99 then (if K = 5 then yS y 3 2 else va_up (rKeep (yS y 3 0)) 1 (rAddsClerk (y 1) K z z1)) else yS y 3 1) := by first | (simp [yS_same, c12, c28]; done) | (rw [if_pos (by simp [c12, c28]), if_neg c44]; rfl)
      exact hret _ _ _ _ dX10_addClerk_36 (by rw [← hE]; exact hP) (by rw [← hE]; exact hD) hS
  ·
    have c12 := bI_0.mp c12
    refine lv_aload_n hx hb dX10_addClerk_15 rfl (lv_at hl 0 rfl) ?_
    refine lv_iconst (v := 1) hx hb dX10_addClerk_16 (by decide) ?_
    refine wrVi (As := [.int (1)]) (rest := []) ⟨hx, hb, hml, hown, hts⟩ (c_X10_fails l D T b (yS y 3 0) w 1 _) (cwV 1 hts gX10_addClerk_X10_fails rfl rfl rfl (by decide +kernel) ⟨Nat.le_of_ble_eq_true rfl, Nat.le_of_ble_eq_true rfl⟩) (Foc.rfl _ _) hK hP hD hS hA 0 rfl rfl rfl hl.1 rfl (Nat.le_of_ble_eq_true rfl) ⟨Nat.zero_le _, Nat.zero_le _⟩ dX10_addClerk_17 (fun H locs hP hD hS => ?_)
    have hP : va_P D vwCl (REF T b (yS (yS y 3 0) 3 1) w) H := hP
    have hD : va_D A (REF T b (yS (yS y 3 0) 3 1) w) := hD
    refine endI (r := if rg z 1 9 && rg z1 0 99 then (if K = 5 then 0 else nI K) else 0) (by first | (simp [c12]; done)) ?_
    have hE : (yS (yS y 3 0) 3 1) = (if rg z 1 9 && rg z1 0 99 then (if K = 5 then yS y 3 2 else va_up (rKeep (yS y 3 0)) 1 (rAddsClerk (y 1) K z z1)) else yS y 3 1) := by first | (simp [yS_same, c12]; done) | (rw [if_pos (by simp [c12]), if_neg c44]; rfl)
    exact hret _ _ _ _ dX10_addClerk_20 (by rw [← hE]; exact hP) (by rw [← hE]; exact hD) hS

set_option maxHeartbeats 4000000 in
set_option maxRecDepth 100000 in
theorem c_X10_refill (l : Launch) (D : va_G) (T : Nat → ClassId) (b : Nat → Nat) (y : Nat → Nat → Int32) (w : Int64) (z : Int32) (z1 : Int32) (N : Nat) (K : Nat) (C : Nat) (nt : Nat) (u : Nat) (hRI : RI (y 1) N K C nt) (hu : y 0 0 = nI u) (hu8 : u ≤ 8) (sz : Nat) : Met l yX10_refill wsX10_refill ({ frames := 2, cells := 0, slots := 0, locals := 45 } : Room) (va_Pc [.ref (b 0), .int (z), .int (z1)] (PS D T (REF T b y w) sz)) (va_Qi (fun r9 (_ : Unit) => r9 = (if inN z K then (if rg z1 1 99 then (va_up (y 1) (19 + 3 * z.toNatClampNeg + 1) (if 99 < y 1 (19 + 3 * z.toNatClampNeg + 1) + z1 then 99 else y 1 (19 + 3 * z.toNatClampNeg + 1) + z1)) (19 + 3 * z.toNatClampNeg + 1) else 0) else 0)) (fun _ t => QS D T (va_A (REF T b y w) sz) (REF T b (if inN z K then (if rg z1 1 99 then va_up (rKeep (yS y 3 0)) 1 (va_up (y 1) (19 + 3 * z.toNatClampNeg + 1) (if 99 < y 1 (19 + 3 * z.toNatClampNeg + 1) + z1 then 99 else y 1 (19 + 3 * z.toNatClampNeg + 1) + z1)) else yS y 3 2) else yS y 3 1) w) t) (va_A (REF T b y w) sz)) 0 0 (va_A (REF T b y w) sz) := by
  refine metSi (cc := cX10_refill) (maxL := 3) (ty := .int) (by decide) rfl (by rfl) (Nat.le_of_ble_eq_true rfl) ?_
  intro p e s m args below meth c Q ls A hx hb hml hown hts hP hK hD hA hS hl hret
  have hown : s.vm.findClass RX10 = some m.cls := hown
  have hl : lv_has ls 3 [(0, .ref (b 0)), (1, .int (z)), (2, .int (z1))] := hl
  have i10 : ∀ w ∈ wsX100, w ∈ wsX10_refill := by decide +kernel
  have w1 := hts (Cond.fieldLink RX10 51 "MoonComplaintWindowModel" "thrown" "I") (List.mem_of_getElem? (i := 1) rfl)
  have w2 := hts (Cond.fieldLink RX10 7 "MoonComplaintWindowModel" "now" "[I") (List.mem_of_getElem? (i := 2) rfl)
  obtain ⟨hN, hN2, hKn, hK2, hC, hC1, hC2, hn, hnt, hSo, hSK⟩ := id hRI
  refine lv_aload_n hx hb dX10_refill_0 rfl (lv_at hl 0 rfl) ?_
  refine lv_iconst (v := 0) hx hb dX10_refill_1 (by decide) ?_
  refine va_put (D := D) (ci := 10) (v := .int (0)) (ty := .int) (C := RX10) (T := TX10) (N := 19) hx hb hts i10 tyX10 tyX10_ok nmX10 hown hK hP hD hS 0 rfl rfl 10 (by decide) w1 (fun _ h9 => h9) rfl (by decide +kernel) rfl rfl (Nat.le_of_ble_eq_true rfl) dX10_refill_2 (fun H locs hP hD hS => ?_)
  have hP : va_P D vwCl (REF T b (yS y 3 0) w) H := hP
  have hD : va_D A (REF T b (yS y 3 0) w) := hD
  refine lv_aload_n hx hb dX10_refill_5 rfl (lv_at hl 0 rfl) ?_
  refine lv_iload_n hx hb dX10_refill_6 rfl (lv_at hl 1 rfl) ?_
  refine rdV (As := [.int (z)]) (rest := []) ⟨hx, hb, hml, hown, hts⟩ (c_X10_isClerk l D T b (yS y 3 0) w z K hKn hK2) (cwV 1 hts gX10_refill_X10_isClerk rfl rfl rfl (by decide +kernel) ⟨Nat.le_of_ble_eq_true rfl, Nat.le_of_ble_eq_true rfl⟩) hK hP 0 rfl rfl rfl hl.1 rfl (Nat.le_of_ble_eq_true rfl) ⟨Nat.zero_le _, Nat.zero_le _⟩ dX10_refill_7 ?_
  refine lv_if_ne (tgt := 19) hx hb dX10_refill_10 (by decide) (fun c10 => ?_) (fun c10 => ?_)
  ·
    have c10 := bI_n0.mp c10
    obtain ⟨j, hj, hjz, hjc⟩ := inN_t (by omega) c10
    rw [hjz] at hl
    have hl : lv_has ls 3 [(0, .ref (b 0)), (1, .int (nI j)), (2, .int (z1))] := hl
    refine lv_iload_n hx hb dX10_refill_19 rfl (lv_at hl 2 rfl) ?_
    refine lv_iconst (v := 1) hx hb dX10_refill_20 (by decide) ?_
    refine lv_bipush (v := 99) hx hb dX10_refill_21 (by decide) ?_
    refine rdT (As := [.int (z1), .int (1), .int (99)]) (rest := []) ⟨hx, hb, hml, hown, hts⟩ (c_X10_in l D T z1 1 99 ) (va_cwS 3 hts gX10_refill_X10_in rfl rfl rfl (by decide +kernel) ⟨Nat.le_of_ble_eq_true rfl, Nat.le_of_ble_eq_true rfl⟩) rfl hl.1 rfl (Nat.le_of_ble_eq_true rfl) ⟨Nat.zero_le _, Nat.zero_le _⟩ dX10_refill_23 ?_
    refine lv_if_ne (tgt := 35) hx hb dX10_refill_26 (by decide) (fun c26 => ?_) (fun c26 => ?_)
    ·
      have c26 := bI_n0.mp c26
      refine lv_aload_n hx hb dX10_refill_35 rfl (lv_at hl 0 rfl) ?_
      refine wrVv (As := []) (rest := []) ⟨hx, hb, hml, hown, hts⟩ (c_X10_keepsForUndo l D T b (yS y 3 0) w u hu hu8 _) (cwV 0 hts gX10_refill_X10_keepsForUndo rfl rfl rfl (by decide +kernel) ⟨Nat.le_of_ble_eq_true rfl, Nat.le_of_ble_eq_true rfl⟩) (Foc.rfl _ _) hK hP hD hS hA 0 rfl rfl rfl hl.1 rfl (Nat.le_of_ble_eq_true rfl) ⟨Nat.zero_le _, Nat.zero_le _⟩ dX10_refill_36 (fun H locs hP hD hS => ?_)
      have hP : va_P D vwCl (REF T b (rKeep (yS y 3 0)) w) H := hP
      have hD : va_D A (REF T b (rKeep (yS y 3 0)) w) := hD
      refine lv_aload_n hx hb dX10_refill_39 rfl (lv_at hl 0 rfl) ?_
      refine va_get (D := D) (ci := 10) (v := .ref (b 1)) (C := RX10) (T := TX10) (N := 19) hx hb hts i10 hown hK hP 0 rfl rfl 0 (by decide) w2 (fun _ h9 => h9) rfl dX10_refill_40 ?_
      refine lv_iload_n hx hb dX10_refill_43 rfl (lv_at hl 1 rfl) ?_
      refine lv_iconst (v := 1) hx hb dX10_refill_44 (by decide) ?_
      refine rdT (As := [.int (nI j), .int (1)]) (rest := [.ref (b 1)]) ⟨hx, hb, hml, hown, hts⟩ (c_X10_clerkAt l D T j 1 ) (va_cwS 2 hts gX10_refill_X10_clerkAt rfl rfl rfl (by decide +kernel) ⟨Nat.le_of_ble_eq_true rfl, Nat.le_of_ble_eq_true rfl⟩) rfl hl.1 rfl (Nat.le_of_ble_eq_true rfl) ⟨Nat.zero_le _, Nat.zero_le _⟩ dX10_refill_45 ?_
      refine lv_bipush (v := 99) hx hb dX10_refill_48 (by decide) ?_
      refine lv_aload_n hx hb dX10_refill_50 rfl (lv_at hl 0 rfl) ?_
      refine va_get (D := D) (ci := 10) (v := .ref (b 1)) (C := RX10) (T := TX10) (N := 19) hx hb hts i10 hown hK hP 0 rfl rfl 0 (by decide) w2 (fun _ h9 => h9) rfl dX10_refill_51 ?_
      refine lv_iload_n hx hb dX10_refill_54 rfl (lv_at hl 1 rfl) ?_
      refine lv_iconst (v := 1) hx hb dX10_refill_55 (by decide) ?_
      refine rdT (As := [.int (nI j), .int (1)]) (rest := [.ref (b 1), .int (99), .int (nI (19 + 3 * j + 1)), .ref (b 1)]) ⟨hx, hb, hml, hown, hts⟩ (c_X10_clerkAt l D T j 1 ) (va_cwS 2 hts gX10_refill_X10_clerkAt rfl rfl rfl (by decide +kernel) ⟨Nat.le_of_ble_eq_true rfl, Nat.le_of_ble_eq_true rfl⟩) rfl hl.1 rfl (Nat.le_of_ble_eq_true rfl) ⟨Nat.zero_le _, Nat.zero_le _⟩ dX10_refill_56 ?_
      refine aldI hx hb hK hP 1 0 rfl rfl (19 + 3 * j + 1) rfl (by omega) (by decide) dX10_refill_59 ?_
      refine lv_iload_n hx hb dX10_refill_60 rfl (lv_at hl 2 rfl) ?_
      refine lv_iadd hx hb dX10_refill_61 ?_
      refine rdT (As := [.int (99), .int ((((rKeep (yS y 3 0)) 1) (19 + 3 * j + 1)) + z1)]) (rest := [.int (nI (19 + 3 * j + 1)), .ref (b 1)]) ⟨hx, hb, hml, hown, hts⟩ (c_X10_less l D T 99 ((((rKeep (yS y 3 0)) 1) (19 + 3 * j + 1)) + z1) ) (va_cwS 2 hts gX10_refill_X10_less rfl rfl rfl (by decide +kernel) ⟨Nat.le_of_ble_eq_true rfl, Nat.le_of_ble_eq_true rfl⟩) rfl hl.1 rfl (Nat.le_of_ble_eq_true rfl) ⟨Nat.zero_le _, Nat.zero_le _⟩ dX10_refill_62 ?_
      refine astI hx hb hK hP hD hS 1 0 rfl rfl (19 + 3 * j + 1) rfl (by omega) (by decide) dX10_refill_65 (fun H locs hP hD hS => ?_)
      have hP : va_P D vwCl (REF T b (va_up (rKeep (yS y 3 0)) 1 (va_up ((rKeep (yS y 3 0)) 1) (19 + 3 * j + 1) (if 99 < ((((rKeep (yS y 3 0)) 1) (19 + 3 * j + 1)) + z1) then 99 else ((((rKeep (yS y 3 0)) 1) (19 + 3 * j + 1)) + z1)))) w) H := hP
      have hD : va_D A (REF T b (va_up (rKeep (yS y 3 0)) 1 (va_up ((rKeep (yS y 3 0)) 1) (19 + 3 * j + 1) (if 99 < ((((rKeep (yS y 3 0)) 1) (19 + 3 * j + 1)) + z1) then 99 else ((((rKeep (yS y 3 0)) 1) (19 + 3 * j + 1)) + z1)))) w) := hD
      refine lv_aload_n hx hb dX10_refill_66 rfl (lv_at hl 0 rfl) ?_
      refine va_get (D := D) (ci := 10) (v := .ref (b 1)) (C := RX10) (T := TX10) (N := 19) hx hb hts i10 hown hK hP 0 rfl rfl 0 (by decide) w2 (fun _ h9 => h9) rfl dX10_refill_67 ?_
      refine lv_iload_n hx hb dX10_refill_70 rfl (lv_at hl 1 rfl) ?_
      refine lv_iconst (v := 1) hx hb dX10_refill_71 (by decide) ?_
      refine rdT (As := [.int (nI j), .int (1)]) (rest := [.ref (b 1)]) ⟨hx, hb, hml, hown, hts⟩ (c_X10_clerkAt l D T j 1 ) (va_cwS 2 hts gX10_refill_X10_clerkAt rfl rfl rfl (by decide +kernel) ⟨Nat.le_of_ble_eq_true rfl, Nat.le_of_ble_eq_true rfl⟩) rfl hl.1 rfl (Nat.le_of_ble_eq_true rfl) ⟨Nat.zero_le _, Nat.zero_le _⟩ dX10_refill_72 ?_
      refine aldI hx hb hK hP 1 0 rfl rfl (19 + 3 * j + 1) rfl (by omega) (by decide) dX10_refill_75 ?_
      refine endI (r := if inN z K then (if rg z1 1 99 then (va_up (y 1) (19 + 3 * z.toNatClampNeg + 1) (if 99 < y 1 (19 + 3 * z.toNatClampNeg + 1) + z1 then 99 else y 1 (19 + 3 * z.toNatClampNeg + 1) + z1)) (19 + 3 * z.toNatClampNeg + 1) else 0) else 0) (by first | (simp [c10, c26]; done) | (rw [if_pos c10, hjc, if_pos c26]; rfl)) ?_
      have hE : (va_up (rKeep (yS y 3 0)) 1 (va_up ((rKeep (yS y 3 0)) 1) (19 + 3 * j + 1) (if 99 < ((((rKeep (yS y 3 0)) 1) (19 + 3 * j + 1)) + z1) then 99 else ((((rKeep (yS y 3 0)) 1) (19 + 3 * j + 1)) + z1)))) = (if inN z K then (if rg z1 1 99 then va_up (rKeep (yS y 3 0)) 1 (va_up (y 1) (19 + 3 * z.toNatClampNeg + 1) (if 99 < y 1 (19 + 3 * z.toNatClampNeg + 1) + z1 then 99 else y 1 (19 + 3 * z.toNatClampNeg + 1) + z1)) else yS y 3 2) else yS y 3 1) := by first | (simp [yS_same, c10, c26]; done) | (rw [if_pos c10, hjc, if_pos c26]; rfl)
      exact hret _ _ _ _ dX10_refill_76 (by rw [← hE]; exact hP) (by rw [← hE]; exact hD) hS
    ·
      have c26 := bI_0.mp c26
      refine lv_aload_n hx hb dX10_refill_29 rfl (lv_at hl 0 rfl) ?_
      refine lv_iconst (v := 2) hx hb dX10_refill_30 (by decide) ?_
      refine wrVi (As := [.int (2)]) (rest := []) ⟨hx, hb, hml, hown, hts⟩ (c_X10_fails l D T b (yS y 3 0) w 2 _) (cwV 1 hts gX10_refill_X10_fails rfl rfl rfl (by decide +kernel) ⟨Nat.le_of_ble_eq_true rfl, Nat.le_of_ble_eq_true rfl⟩) (Foc.rfl _ _) hK hP hD hS hA 0 rfl rfl rfl hl.1 rfl (Nat.le_of_ble_eq_true rfl) ⟨Nat.zero_le _, Nat.zero_le _⟩ dX10_refill_31 (fun H locs hP hD hS => ?_)
      have hP : va_P D vwCl (REF T b (yS (yS y 3 0) 3 2) w) H := hP
      have hD : va_D A (REF T b (yS (yS y 3 0) 3 2) w) := hD
      refine endI (r := if inN z K then (if rg z1 1 99 then (va_up (y 1) (19 + 3 * z.toNatClampNeg + 1) (if 99 < y 1 (19 + 3 * z.toNatClampNeg + 1) + z1 then 99 else y 1 (19 + 3 * z.toNatClampNeg + 1) + z1)) (19 + 3 * z.toNatClampNeg + 1) else 0) else 0) (by first | (simp [c10, c26]; done) | (rw [if_pos c10, hjc, if_pos c26]; rfl)) ?_
      have hE : (yS (yS y 3 0) 3 2) = (if inN z K then (if rg z1 1 99 then va_up (rKeep (yS y 3 0)) 1 (va_up (y 1) (19 + 3 * z.toNatClampNeg + 1) (if 99 < y 1 (19 + 3 * z.toNatClampNeg + 1) + z1 then 99 else y 1 (19 + 3 * z.toNatClampNeg + 1) + z1)) else yS y 3 2) else yS y 3 1) := by first | (simp [yS_same, c10, c26]; done) | (rw [if_pos c10, hjc, if_pos c26]; rfl)
      exact hret _ _ _ _ dX10_refill_34 (by rw [← hE]; exact hP) (by rw [← hE]; exact hD) hS
  ·
    have c10 := bI_0.mp c10
    refine lv_aload_n hx hb dX10_refill_13 rfl (lv_at hl 0 rfl) ?_
    refine lv_iconst (v := 1) hx hb dX10_refill_14 (by decide) ?_
    refine wrVi (As := [.int (1)]) (rest := []) ⟨hx, hb, hml, hown, hts⟩ (c_X10_fails l D T b (yS y 3 0) w 1 _) (cwV 1 hts gX10_refill_X10_fails rfl rfl rfl (by decide +kernel) ⟨Nat.le_of_ble_eq_true rfl, Nat.le_of_ble_eq_true rfl⟩) (Foc.rfl _ _) hK hP hD hS hA 0 rfl rfl rfl hl.1 rfl (Nat.le_of_ble_eq_true rfl) ⟨Nat.zero_le _, Nat.zero_le _⟩ dX10_refill_15 (fun H locs hP hD hS => ?_)
    have hP : va_P D vwCl (REF T b (yS (yS y 3 0) 3 1) w) H := hP
    have hD : va_D A (REF T b (yS (yS y 3 0) 3 1) w) := hD
    refine endI (r := if inN z K then (if rg z1 1 99 then (va_up (y 1) (19 + 3 * z.toNatClampNeg + 1) (if 99 < y 1 (19 + 3 * z.toNatClampNeg + 1) + z1 then 99 else y 1 (19 + 3 * z.toNatClampNeg + 1) + z1)) (19 + 3 * z.toNatClampNeg + 1) else 0) else 0) (by first | (simp [c10]; done) | (rw [if_pos c10, hjc, if_pos c26]; rfl)) ?_
    have hE : (yS (yS y 3 0) 3 1) = (if inN z K then (if rg z1 1 99 then va_up (rKeep (yS y 3 0)) 1 (va_up (y 1) (19 + 3 * z.toNatClampNeg + 1) (if 99 < y 1 (19 + 3 * z.toNatClampNeg + 1) + z1 then 99 else y 1 (19 + 3 * z.toNatClampNeg + 1) + z1)) else yS y 3 2) else yS y 3 1) := by first | (simp [yS_same, c10]; done) | (rw [if_pos c10, hjc, if_pos c26]; rfl)
    exact hret _ _ _ _ dX10_refill_18 (by rw [← hE]; exact hP) (by rw [← hE]; exact hD) hS

set_option maxHeartbeats 4000000 in
set_option maxRecDepth 100000 in
theorem c_X10_sets (l : Launch) (D : va_G) (T : Nat → ClassId) (b : Nat → Nat) (y : Nat → Nat → Int32) (w : Int64) (pp : Nat) (z : Int32) (u : Nat) (hu : y 0 0 = nI u) (hu8 : u ≤ 8) (hp : pp < 202) (sz : Nat) : Met l yX10_sets wsX10_sets ({ frames := 2, cells := 0, slots := 0, locals := 45 } : Room) (va_Pc [.ref (b 0), .int (nI pp), .int (z)] (PS D T (REF T b y w) sz)) (va_Qi (fun r9 (_ : Unit) => r9 = (y 1 pp)) (fun _ t => QS D T (va_A (REF T b y w) sz) (REF T b (va_up (rKeep y) 1 (va_up (y 1) pp z)) w) t) (va_A (REF T b y w) sz)) 0 0 (va_A (REF T b y w) sz) := by
  refine metSi (cc := cX10_sets) (maxL := 4) (ty := .int) (by decide) rfl (by rfl) (Nat.le_of_ble_eq_true rfl) ?_
  intro p e s m args below meth c Q ls A hx hb hml hown hts hP hK hD hA hS hl hret
  have hown : s.vm.findClass RX10 = some m.cls := hown
  have hl : lv_has ls 4 [(0, .ref (b 0)), (1, .int (nI pp)), (2, .int (z))] := hl
  have i10 : ∀ w ∈ wsX100, w ∈ wsX10_sets := by decide +kernel
  have w1 := hts (Cond.fieldLink RX10 7 "MoonComplaintWindowModel" "now" "[I") (List.mem_of_getElem? (i := 1) rfl)
  refine lv_aload_n hx hb dX10_sets_0 rfl (lv_at hl 0 rfl) ?_
  refine wrVv (As := []) (rest := []) ⟨hx, hb, hml, hown, hts⟩ (c_X10_keepsForUndo l D T b y w u hu hu8 _) (cwV 0 hts gX10_sets_X10_keepsForUndo rfl rfl rfl (by decide +kernel) ⟨Nat.le_of_ble_eq_true rfl, Nat.le_of_ble_eq_true rfl⟩) (Foc.rfl _ _) hK hP hD hS hA 0 rfl rfl rfl hl.1 rfl (Nat.le_of_ble_eq_true rfl) ⟨Nat.zero_le _, Nat.zero_le _⟩ dX10_sets_1 (fun H locs hP hD hS => ?_)
  have hP : va_P D vwCl (REF T b (rKeep y) w) H := hP
  have hD : va_D A (REF T b (rKeep y) w) := hD
  refine lv_aload_n hx hb dX10_sets_4 rfl (lv_at hl 0 rfl) ?_
  refine va_get (D := D) (ci := 10) (v := .ref (b 1)) (C := RX10) (T := TX10) (N := 19) hx hb hts i10 hown hK hP 0 rfl rfl 0 (by decide) w1 (fun _ h9 => h9) rfl dX10_sets_5 ?_
  refine lv_iload_n hx hb dX10_sets_8 rfl (lv_at hl 1 rfl) ?_
  refine aldI hx hb hK hP 1 0 rfl rfl (pp) rfl (by omega) (by decide) dX10_sets_9 ?_
  refine lv_istore_n (lv' := [(3, .int (((rKeep y) 1) pp)), (0, .ref (b 0)), (1, .int (nI pp)), (2, .int (z))]) hx hb dX10_sets_10 rfl hl (by decide) rfl (fun ls hl => ?_)
  refine lv_aload_n hx hb dX10_sets_11 rfl (lv_at hl 1 rfl) ?_
  refine va_get (D := D) (ci := 10) (v := .ref (b 1)) (C := RX10) (T := TX10) (N := 19) hx hb hts i10 hown hK hP 0 rfl rfl 0 (by decide) w1 (fun _ h9 => h9) rfl dX10_sets_12 ?_
  refine lv_iload_n hx hb dX10_sets_15 rfl (lv_at hl 2 rfl) ?_
  refine lv_iload_n hx hb dX10_sets_16 rfl (lv_at hl 3 rfl) ?_
  refine astI hx hb hK hP hD hS 1 0 rfl rfl (pp) rfl (by omega) (by decide) dX10_sets_17 (fun H locs hP hD hS => ?_)
  have hP : va_P D vwCl (REF T b (va_up (rKeep y) 1 (va_up ((rKeep y) 1) pp z)) w) H := hP
  have hD : va_D A (REF T b (va_up (rKeep y) 1 (va_up ((rKeep y) 1) pp z)) w) := hD
  refine lv_iload_n hx hb dX10_sets_18 rfl (lv_at hl 0 rfl) ?_
  refine endI (r := y 1 pp) (by rfl) ?_
  have hE : (va_up (rKeep y) 1 (va_up ((rKeep y) 1) pp z)) = (va_up (rKeep y) 1 (va_up (y 1) pp z)) := by rfl
  exact hret _ _ _ _ dX10_sets_19 (by rw [← hE]; exact hP) (by rw [← hE]; exact hD) hS

set_option maxHeartbeats 4000000 in
set_option maxRecDepth 100000 in
theorem c_X10_setCloud (l : Launch) (D : va_G) (T : Nat → ClassId) (b : Nat → Nat) (y : Nat → Nat → Int32) (w : Int64) (z : Int32) (z1 : Int32) (N : Nat) (K : Nat) (C : Nat) (nt : Nat) (u : Nat) (hRI : RI (y 1) N K C nt) (hu : y 0 0 = nI u) (hu8 : u ≤ 8) (sz : Nat) : Met l yX10_setCloud wsX10_setCloud ({ frames := 3, cells := 0, slots := 0, locals := 68 } : Room) (va_Pc [.ref (b 0), .int (z), .int (z1)] (PS D T (REF T b y w) sz)) (va_Qi (fun r9 (_ : Unit) => r9 = (if inN z C then (if rg z1 0 9 then y 1 (9 + z.toNatClampNeg) else 0) else 0)) (fun _ t => QS D T (va_A (REF T b y w) sz) (REF T b (if inN z C then (if rg z1 0 9 then va_up (rKeep (yS y 3 0)) 1 (va_up (y 1) (9 + z.toNatClampNeg) z1) else yS y 3 2) else yS y 3 1) w) t) (va_A (REF T b y w) sz)) 0 0 (va_A (REF T b y w) sz) := by
  refine metSi (cc := cX10_setCloud) (maxL := 3) (ty := .int) (by decide) rfl (by rfl) (Nat.le_of_ble_eq_true rfl) ?_
  intro p e s m args below meth c Q ls A hx hb hml hown hts hP hK hD hA hS hl hret
  have hown : s.vm.findClass RX10 = some m.cls := hown
  have hl : lv_has ls 3 [(0, .ref (b 0)), (1, .int (z)), (2, .int (z1))] := hl
  have i10 : ∀ w ∈ wsX100, w ∈ wsX10_setCloud := by decide +kernel
  have w1 := hts (Cond.fieldLink RX10 51 "MoonComplaintWindowModel" "thrown" "I") (List.mem_of_getElem? (i := 1) rfl)
  have w2 := hts (Cond.fieldLink RX10 7 "MoonComplaintWindowModel" "now" "[I") (List.mem_of_getElem? (i := 2) rfl)
  obtain ⟨hN, hN2, hKn, hK2, hC, hC1, hC2, hn, hnt, hSo, hSK⟩ := id hRI
  refine lv_aload_n hx hb dX10_setCloud_0 rfl (lv_at hl 0 rfl) ?_
  refine lv_iconst (v := 0) hx hb dX10_setCloud_1 (by decide) ?_
  refine va_put (D := D) (ci := 10) (v := .int (0)) (ty := .int) (C := RX10) (T := TX10) (N := 19) hx hb hts i10 tyX10 tyX10_ok nmX10 hown hK hP hD hS 0 rfl rfl 10 (by decide) w1 (fun _ h9 => h9) rfl (by decide +kernel) rfl rfl (Nat.le_of_ble_eq_true rfl) dX10_setCloud_2 (fun H locs hP hD hS => ?_)
  have hP : va_P D vwCl (REF T b (yS y 3 0) w) H := hP
  have hD : va_D A (REF T b (yS y 3 0) w) := hD
  refine lv_iload_n hx hb dX10_setCloud_5 rfl (lv_at hl 1 rfl) ?_
  refine lv_iconst (v := 0) hx hb dX10_setCloud_6 (by decide) ?_
  refine lv_aload_n hx hb dX10_setCloud_7 rfl (lv_at hl 0 rfl) ?_
  refine va_get (D := D) (ci := 10) (v := .ref (b 1)) (C := RX10) (T := TX10) (N := 19) hx hb hts i10 hown hK hP 0 rfl rfl 0 (by decide) w2 (fun _ h9 => h9) rfl dX10_setCloud_8 ?_
  refine lv_iconst (v := 4) hx hb dX10_setCloud_11 (by decide) ?_
  refine aldI hx hb hK hP 1 0 rfl rfl (4) rfl (by omega) (by decide) dX10_setCloud_12 ?_
  refine endI (r := nI C) (hC) ?_
  refine lv_iconst (v := 1) hx hb dX10_setCloud_13 (by decide) ?_
  refine lv_isub hx hb dX10_setCloud_14 ?_
  refine rdT (As := [.int (z), .int (0), .int ((nI C) - 1)]) (rest := []) ⟨hx, hb, hml, hown, hts⟩ (c_X10_in l D T z 0 ((nI C) - 1) ) (va_cwS 3 hts gX10_setCloud_X10_in rfl rfl rfl (by decide +kernel) ⟨Nat.le_of_ble_eq_true rfl, Nat.le_of_ble_eq_true rfl⟩) rfl hl.1 rfl (Nat.le_of_ble_eq_true rfl) ⟨Nat.zero_le _, Nat.zero_le _⟩ dX10_setCloud_15 ?_
  refine lv_if_ne (tgt := 27) hx hb dX10_setCloud_18 (by decide) (fun c18 => ?_) (fun c18 => ?_)
  ·
    have c18 := bI_n0.mp c18
    have c18 : inN z C = true := by rw [← inN_R (by omega)]; exact c18
    obtain ⟨j, hj, hjz, hjc⟩ := inN_t (by omega) c18
    rw [hjz] at hl
    have hl : lv_has ls 3 [(0, .ref (b 0)), (1, .int (nI j)), (2, .int (z1))] := hl
    refine lv_iload_n hx hb dX10_setCloud_27 rfl (lv_at hl 2 rfl) ?_
    refine lv_iconst (v := 0) hx hb dX10_setCloud_28 (by decide) ?_
    refine lv_bipush (v := 9) hx hb dX10_setCloud_29 (by decide) ?_
    refine rdT (As := [.int (z1), .int (0), .int (9)]) (rest := []) ⟨hx, hb, hml, hown, hts⟩ (c_X10_in l D T z1 0 9 ) (va_cwS 3 hts gX10_setCloud_X10_in rfl rfl rfl (by decide +kernel) ⟨Nat.le_of_ble_eq_true rfl, Nat.le_of_ble_eq_true rfl⟩) rfl hl.1 rfl (Nat.le_of_ble_eq_true rfl) ⟨Nat.zero_le _, Nat.zero_le _⟩ dX10_setCloud_31 ?_
    refine lv_if_ne (tgt := 43) hx hb dX10_setCloud_34 (by decide) (fun c34 => ?_) (fun c34 => ?_)
    ·
      have c34 := bI_n0.mp c34
      refine lv_aload_n hx hb dX10_setCloud_43 rfl (lv_at hl 0 rfl) ?_
      refine lv_bipush (v := 9) hx hb dX10_setCloud_44 (by decide) ?_
      refine lv_iload_n hx hb dX10_setCloud_46 rfl (lv_at hl 1 rfl) ?_
      refine lv_iadd hx hb dX10_setCloud_47 ?_
      refine endI (r := nI (9 + j)) (nI_add _ _) ?_
      refine lv_iload_n hx hb dX10_setCloud_48 rfl (lv_at hl 2 rfl) ?_
      refine wrVi (As := [.int (nI (9 + j)), .int (z1)]) (rest := []) ⟨hx, hb, hml, hown, hts⟩ (c_X10_sets l D T b (yS y 3 0) w (9 + j) z1 u hu hu8 (by omega) _) (cwV 2 hts gX10_setCloud_X10_sets rfl rfl rfl (by decide +kernel) ⟨Nat.le_of_ble_eq_true rfl, Nat.le_of_ble_eq_true rfl⟩) (Foc.rfl _ _) hK hP hD hS hA 0 rfl rfl rfl hl.1 rfl (Nat.le_of_ble_eq_true rfl) ⟨Nat.zero_le _, Nat.zero_le _⟩ dX10_setCloud_49 (fun H locs hP hD hS => ?_)
      have hP : va_P D vwCl (REF T b (va_up (rKeep (yS y 3 0)) 1 (va_up ((yS y 3 0) 1) (9 + j) z1)) w) H := hP
      have hD : va_D A (REF T b (va_up (rKeep (yS y 3 0)) 1 (va_up ((yS y 3 0) 1) (9 + j) z1)) w) := hD
      refine endI (r := if inN z C then (if rg z1 0 9 then y 1 (9 + z.toNatClampNeg) else 0) else 0) (by first | (simp [c18, c34]; done) | (rw [if_pos c18, hjc, if_pos c34]; rfl)) ?_
      have hE : (va_up (rKeep (yS y 3 0)) 1 (va_up ((yS y 3 0) 1) (9 + j) z1)) = (if inN z C then (if rg z1 0 9 then va_up (rKeep (yS y 3 0)) 1 (va_up (y 1) (9 + z.toNatClampNeg) z1) else yS y 3 2) else yS y 3 1) := by first | (simp [yS_same, c18, c34]; done) | (rw [if_pos c18, hjc, if_pos c34]; rfl)
      exact hret _ _ _ _ dX10_setCloud_52 (by rw [← hE]; exact hP) (by rw [← hE]; exact hD) hS
    ·
      have c34 := bI_0.mp c34
      refine lv_aload_n hx hb dX10_setCloud_37 rfl (lv_at hl 0 rfl) ?_
      refine lv_iconst (v := 2) hx hb dX10_setCloud_38 (by decide) ?_
      refine wrVi (As := [.int (2)]) (rest := []) ⟨hx, hb, hml, hown, hts⟩ (c_X10_fails l D T b (yS y 3 0) w 2 _) (cwV 1 hts gX10_setCloud_X10_fails rfl rfl rfl (by decide +kernel) ⟨Nat.le_of_ble_eq_true rfl, Nat.le_of_ble_eq_true rfl⟩) (Foc.rfl _ _) hK hP hD hS hA 0 rfl rfl rfl hl.1 rfl (Nat.le_of_ble_eq_true rfl) ⟨Nat.zero_le _, Nat.zero_le _⟩ dX10_setCloud_39 (fun H locs hP hD hS => ?_)
      have hP : va_P D vwCl (REF T b (yS (yS y 3 0) 3 2) w) H := hP
      have hD : va_D A (REF T b (yS (yS y 3 0) 3 2) w) := hD
      refine endI (r := if inN z C then (if rg z1 0 9 then y 1 (9 + z.toNatClampNeg) else 0) else 0) (by first | (simp [c18, c34]; done) | (rw [if_pos c18, hjc, if_pos c34]; rfl)) ?_
      have hE : (yS (yS y 3 0) 3 2) = (if inN z C then (if rg z1 0 9 then va_up (rKeep (yS y 3 0)) 1 (va_up (y 1) (9 + z.toNatClampNeg) z1) else yS y 3 2) else yS y 3 1) := by first | (simp [yS_same, c18, c34]; done) | (rw [if_pos c18, hjc, if_pos c34]; rfl)
      exact hret _ _ _ _ dX10_setCloud_42 (by rw [← hE]; exact hP) (by rw [← hE]; exact hD) hS
  ·
    have c18 := bI_0.mp c18
    have c18 : inN z C = false := by rw [← inN_R (by omega)]; exact c18
    refine lv_aload_n hx hb dX10_setCloud_21 rfl (lv_at hl 0 rfl) ?_
    refine lv_iconst (v := 1) hx hb dX10_setCloud_22 (by decide) ?_
    refine wrVi (As := [.int (1)]) (rest := []) ⟨hx, hb, hml, hown, hts⟩ (c_X10_fails l D T b (yS y 3 0) w 1 _) (cwV 1 hts gX10_setCloud_X10_fails rfl rfl rfl (by decide +kernel) ⟨Nat.le_of_ble_eq_true rfl, Nat.le_of_ble_eq_true rfl⟩) (Foc.rfl _ _) hK hP hD hS hA 0 rfl rfl rfl hl.1 rfl (Nat.le_of_ble_eq_true rfl) ⟨Nat.zero_le _, Nat.zero_le _⟩ dX10_setCloud_23 (fun H locs hP hD hS => ?_)
    have hP : va_P D vwCl (REF T b (yS (yS y 3 0) 3 1) w) H := hP
    have hD : va_D A (REF T b (yS (yS y 3 0) 3 1) w) := hD
    refine endI (r := if inN z C then (if rg z1 0 9 then y 1 (9 + z.toNatClampNeg) else 0) else 0) (by first | (simp [c18]; done) | (rw [if_pos c18, hjc, if_pos c34]; rfl)) ?_
    have hE : (yS (yS y 3 0) 3 1) = (if inN z C then (if rg z1 0 9 then va_up (rKeep (yS y 3 0)) 1 (va_up (y 1) (9 + z.toNatClampNeg) z1) else yS y 3 2) else yS y 3 1) := by first | (simp [yS_same, c18]; done) | (rw [if_pos c18, hjc, if_pos c34]; rfl)
    exact hret _ _ _ _ dX10_setCloud_26 (by rw [← hE]; exact hP) (by rw [← hE]; exact hD) hS

set_option maxHeartbeats 4000000 in
set_option maxRecDepth 100000 in
theorem c_X10_setGlareLimit (l : Launch) (D : va_G) (T : Nat → ClassId) (b : Nat → Nat) (y : Nat → Nat → Int32) (w : Int64) (z : Int32) (u : Nat) (hu : y 0 0 = nI u) (hu8 : u ≤ 8) (sz : Nat) : Met l yX10_setGlareLimit wsX10_setGlareLimit ({ frames := 3, cells := 0, slots := 0, locals := 68 } : Room) (va_Pc [.ref (b 0), .int (z)] (PS D T (REF T b y w) sz)) (va_Qi (fun r9 (_ : Unit) => r9 = (if rg z 1 14 then y 1 1 else 0)) (fun _ t => QS D T (va_A (REF T b y w) sz) (REF T b (if rg z 1 14 then va_up (rKeep (yS y 3 0)) 1 (va_up (y 1) 1 z) else yS y 3 1) w) t) (va_A (REF T b y w) sz)) 0 0 (va_A (REF T b y w) sz) := by
  refine metSi (cc := cX10_setGlareLimit) (maxL := 2) (ty := .int) (by decide) rfl (by rfl) (Nat.le_of_ble_eq_true rfl) ?_
  intro p e s m args below meth c Q ls A hx hb hml hown hts hP hK hD hA hS hl hret
  have hown : s.vm.findClass RX10 = some m.cls := hown
  have hl : lv_has ls 2 [(0, .ref (b 0)), (1, .int (z))] := hl
  have i10 : ∀ w ∈ wsX100, w ∈ wsX10_setGlareLimit := by decide +kernel
  have w1 := hts (Cond.fieldLink RX10 51 "MoonComplaintWindowModel" "thrown" "I") (List.mem_of_getElem? (i := 1) rfl)
  refine lv_aload_n hx hb dX10_setGlareLimit_0 rfl (lv_at hl 0 rfl) ?_
  refine lv_iconst (v := 0) hx hb dX10_setGlareLimit_1 (by decide) ?_
  refine va_put (D := D) (ci := 10) (v := .int (0)) (ty := .int) (C := RX10) (T := TX10) (N := 19) hx hb hts i10 tyX10 tyX10_ok nmX10 hown hK hP hD hS 0 rfl rfl 10 (by decide) w1 (fun _ h9 => h9) rfl (by decide +kernel) rfl rfl (Nat.le_of_ble_eq_true rfl) dX10_setGlareLimit_2 (fun H locs hP hD hS => ?_)
  have hP : va_P D vwCl (REF T b (yS y 3 0) w) H := hP
  have hD : va_D A (REF T b (yS y 3 0) w) := hD
  refine lv_iload_n hx hb dX10_setGlareLimit_5 rfl (lv_at hl 1 rfl) ?_
  refine lv_iconst (v := 1) hx hb dX10_setGlareLimit_6 (by decide) ?_
  refine lv_bipush (v := 14) hx hb dX10_setGlareLimit_7 (by decide) ?_
  refine rdT (As := [.int (z), .int (1), .int (14)]) (rest := []) ⟨hx, hb, hml, hown, hts⟩ (c_X10_in l D T z 1 14 ) (va_cwS 3 hts gX10_setGlareLimit_X10_in rfl rfl rfl (by decide +kernel) ⟨Nat.le_of_ble_eq_true rfl, Nat.le_of_ble_eq_true rfl⟩) rfl hl.1 rfl (Nat.le_of_ble_eq_true rfl) ⟨Nat.zero_le _, Nat.zero_le _⟩ dX10_setGlareLimit_9 ?_
  refine lv_if_ne (tgt := 21) hx hb dX10_setGlareLimit_12 (by decide) (fun c12 => ?_) (fun c12 => ?_)
  ·
    have c12 := bI_n0.mp c12
    refine lv_aload_n hx hb dX10_setGlareLimit_21 rfl (lv_at hl 0 rfl) ?_
    refine lv_iconst (v := 1) hx hb dX10_setGlareLimit_22 (by decide) ?_
    refine lv_iload_n hx hb dX10_setGlareLimit_23 rfl (lv_at hl 1 rfl) ?_
    refine wrVi (As := [.int (1), .int (z)]) (rest := []) ⟨hx, hb, hml, hown, hts⟩ (c_X10_sets l D T b (yS y 3 0) w 1 z u hu hu8 (by omega) _) (cwV 2 hts gX10_setGlareLimit_X10_sets rfl rfl rfl (by decide +kernel) ⟨Nat.le_of_ble_eq_true rfl, Nat.le_of_ble_eq_true rfl⟩) (Foc.rfl _ _) hK hP hD hS hA 0 rfl rfl rfl hl.1 rfl (Nat.le_of_ble_eq_true rfl) ⟨Nat.zero_le _, Nat.zero_le _⟩ dX10_setGlareLimit_24 (fun H locs hP hD hS => ?_)
    have hP : va_P D vwCl (REF T b (va_up (rKeep (yS y 3 0)) 1 (va_up ((yS y 3 0) 1) 1 z)) w) H := hP
    have hD : va_D A (REF T b (va_up (rKeep (yS y 3 0)) 1 (va_up ((yS y 3 0) 1) 1 z)) w) := hD
    refine endI (r := if rg z 1 14 then y 1 1 else 0) (by first | (simp [c12]; done) | (rw [if_pos c12]; rfl)) ?_
    have hE : (va_up (rKeep (yS y 3 0)) 1 (va_up ((yS y 3 0) 1) 1 z)) = (if rg z 1 14 then va_up (rKeep (yS y 3 0)) 1 (va_up (y 1) 1 z) else yS y 3 1) := by first | (simp [yS_same, c12]; done) | (rw [if_pos c12]; rfl)
    exact hret _ _ _ _ dX10_setGlareLimit_27 (by rw [← hE]; exact hP) (by rw [← hE]; exact hD) hS
  ·
    have c12 := bI_0.mp c12
    refine lv_aload_n hx hb dX10_setGlareLimit_15 rfl (lv_at hl 0 rfl) ?_
    refine lv_iconst (v := 1) hx hb dX10_setGlareLimit_16 (by decide) ?_
    refine wrVi (As := [.int (1)]) (rest := []) ⟨hx, hb, hml, hown, hts⟩ (c_X10_fails l D T b (yS y 3 0) w 1 _) (cwV 1 hts gX10_setGlareLimit_X10_fails rfl rfl rfl (by decide +kernel) ⟨Nat.le_of_ble_eq_true rfl, Nat.le_of_ble_eq_true rfl⟩) (Foc.rfl _ _) hK hP hD hS hA 0 rfl rfl rfl hl.1 rfl (Nat.le_of_ble_eq_true rfl) ⟨Nat.zero_le _, Nat.zero_le _⟩ dX10_setGlareLimit_17 (fun H locs hP hD hS => ?_)
    have hP : va_P D vwCl (REF T b (yS (yS y 3 0) 3 1) w) H := hP
    have hD : va_D A (REF T b (yS (yS y 3 0) 3 1) w) := hD
    refine endI (r := if rg z 1 14 then y 1 1 else 0) (by first | (simp [c12]; done) | (rw [if_pos c12]; rfl)) ?_
    have hE : (yS (yS y 3 0) 3 1) = (if rg z 1 14 then va_up (rKeep (yS y 3 0)) 1 (va_up (y 1) 1 z) else yS y 3 1) := by first | (simp [yS_same, c12]; done) | (rw [if_pos c12]; rfl)
    exact hret _ _ _ _ dX10_setGlareLimit_20 (by rw [← hE]; exact hP) (by rw [← hE]; exact hD) hS

set_option maxHeartbeats 4000000 in
set_option maxRecDepth 100000 in
theorem c_X10_setGloomLimit (l : Launch) (D : va_G) (T : Nat → ClassId) (b : Nat → Nat) (y : Nat → Nat → Int32) (w : Int64) (z : Int32) (u : Nat) (hu : y 0 0 = nI u) (hu8 : u ≤ 8) (sz : Nat) : Met l yX10_setGloomLimit wsX10_setGloomLimit ({ frames := 3, cells := 0, slots := 0, locals := 68 } : Room) (va_Pc [.ref (b 0), .int (z)] (PS D T (REF T b y w) sz)) (va_Qi (fun r9 (_ : Unit) => r9 = (if rg z 0 13 then y 1 2 else 0)) (fun _ t => QS D T (va_A (REF T b y w) sz) (REF T b (if rg z 0 13 then va_up (rKeep (yS y 3 0)) 1 (va_up (y 1) 2 z) else yS y 3 1) w) t) (va_A (REF T b y w) sz)) 0 0 (va_A (REF T b y w) sz) := by
  refine metSi (cc := cX10_setGloomLimit) (maxL := 2) (ty := .int) (by decide) rfl (by rfl) (Nat.le_of_ble_eq_true rfl) ?_
  intro p e s m args below meth c Q ls A hx hb hml hown hts hP hK hD hA hS hl hret
  have hown : s.vm.findClass RX10 = some m.cls := hown
  have hl : lv_has ls 2 [(0, .ref (b 0)), (1, .int (z))] := hl
  have i10 : ∀ w ∈ wsX100, w ∈ wsX10_setGloomLimit := by decide +kernel
  have w1 := hts (Cond.fieldLink RX10 51 "MoonComplaintWindowModel" "thrown" "I") (List.mem_of_getElem? (i := 1) rfl)
  refine lv_aload_n hx hb dX10_setGloomLimit_0 rfl (lv_at hl 0 rfl) ?_
  refine lv_iconst (v := 0) hx hb dX10_setGloomLimit_1 (by decide) ?_
  refine va_put (D := D) (ci := 10) (v := .int (0)) (ty := .int) (C := RX10) (T := TX10) (N := 19) hx hb hts i10 tyX10 tyX10_ok nmX10 hown hK hP hD hS 0 rfl rfl 10 (by decide) w1 (fun _ h9 => h9) rfl (by decide +kernel) rfl rfl (Nat.le_of_ble_eq_true rfl) dX10_setGloomLimit_2 (fun H locs hP hD hS => ?_)
  have hP : va_P D vwCl (REF T b (yS y 3 0) w) H := hP
  have hD : va_D A (REF T b (yS y 3 0) w) := hD
  refine lv_iload_n hx hb dX10_setGloomLimit_5 rfl (lv_at hl 1 rfl) ?_
  refine lv_iconst (v := 0) hx hb dX10_setGloomLimit_6 (by decide) ?_
  refine lv_bipush (v := 13) hx hb dX10_setGloomLimit_7 (by decide) ?_
  refine rdT (As := [.int (z), .int (0), .int (13)]) (rest := []) ⟨hx, hb, hml, hown, hts⟩ (c_X10_in l D T z 0 13 ) (va_cwS 3 hts gX10_setGloomLimit_X10_in rfl rfl rfl (by decide +kernel) ⟨Nat.le_of_ble_eq_true rfl, Nat.le_of_ble_eq_true rfl⟩) rfl hl.1 rfl (Nat.le_of_ble_eq_true rfl) ⟨Nat.zero_le _, Nat.zero_le _⟩ dX10_setGloomLimit_9 ?_
  refine lv_if_ne (tgt := 21) hx hb dX10_setGloomLimit_12 (by decide) (fun c12 => ?_) (fun c12 => ?_)
  ·
    have c12 := bI_n0.mp c12
    refine lv_aload_n hx hb dX10_setGloomLimit_21 rfl (lv_at hl 0 rfl) ?_
    refine lv_iconst (v := 2) hx hb dX10_setGloomLimit_22 (by decide) ?_
    refine lv_iload_n hx hb dX10_setGloomLimit_23 rfl (lv_at hl 1 rfl) ?_
    refine wrVi (As := [.int (2), .int (z)]) (rest := []) ⟨hx, hb, hml, hown, hts⟩ (c_X10_sets l D T b (yS y 3 0) w 2 z u hu hu8 (by omega) _) (cwV 2 hts gX10_setGloomLimit_X10_sets rfl rfl rfl (by decide +kernel) ⟨Nat.le_of_ble_eq_true rfl, Nat.le_of_ble_eq_true rfl⟩) (Foc.rfl _ _) hK hP hD hS hA 0 rfl rfl rfl hl.1 rfl (Nat.le_of_ble_eq_true rfl) ⟨Nat.zero_le _, Nat.zero_le _⟩ dX10_setGloomLimit_24 (fun H locs hP hD hS => ?_)
    have hP : va_P D vwCl (REF T b (va_up (rKeep (yS y 3 0)) 1 (va_up ((yS y 3 0) 1) 2 z)) w) H := hP
    have hD : va_D A (REF T b (va_up (rKeep (yS y 3 0)) 1 (va_up ((yS y 3 0) 1) 2 z)) w) := hD
    refine endI (r := if rg z 0 13 then y 1 2 else 0) (by first | (simp [c12]; done) | (rw [if_pos c12]; rfl)) ?_
    have hE : (va_up (rKeep (yS y 3 0)) 1 (va_up ((yS y 3 0) 1) 2 z)) = (if rg z 0 13 then va_up (rKeep (yS y 3 0)) 1 (va_up (y 1) 2 z) else yS y 3 1) := by first | (simp [yS_same, c12]; done) | (rw [if_pos c12]; rfl)
    exact hret _ _ _ _ dX10_setGloomLimit_27 (by rw [← hE]; exact hP) (by rw [← hE]; exact hD) hS
  ·
    have c12 := bI_0.mp c12
    refine lv_aload_n hx hb dX10_setGloomLimit_15 rfl (lv_at hl 0 rfl) ?_
    refine lv_iconst (v := 1) hx hb dX10_setGloomLimit_16 (by decide) ?_
    refine wrVi (As := [.int (1)]) (rest := []) ⟨hx, hb, hml, hown, hts⟩ (c_X10_fails l D T b (yS y 3 0) w 1 _) (cwV 1 hts gX10_setGloomLimit_X10_fails rfl rfl rfl (by decide +kernel) ⟨Nat.le_of_ble_eq_true rfl, Nat.le_of_ble_eq_true rfl⟩) (Foc.rfl _ _) hK hP hD hS hA 0 rfl rfl rfl hl.1 rfl (Nat.le_of_ble_eq_true rfl) ⟨Nat.zero_le _, Nat.zero_le _⟩ dX10_setGloomLimit_17 (fun H locs hP hD hS => ?_)
    have hP : va_P D vwCl (REF T b (yS (yS y 3 0) 3 1) w) H := hP
    have hD : va_D A (REF T b (yS (yS y 3 0) 3 1) w) := hD
    refine endI (r := if rg z 0 13 then y 1 2 else 0) (by first | (simp [c12]; done) | (rw [if_pos c12]; rfl)) ?_
    have hE : (yS (yS y 3 0) 3 1) = (if rg z 0 13 then va_up (rKeep (yS y 3 0)) 1 (va_up (y 1) 2 z) else yS y 3 1) := by first | (simp [yS_same, c12]; done) | (rw [if_pos c12]; rfl)
    exact hret _ _ _ _ dX10_setGloomLimit_20 (by rw [← hE]; exact hP) (by rw [← hE]; exact hD) hS

set_option maxHeartbeats 4000000 in
set_option maxRecDepth 100000 in
theorem c_X10_setTideLimit (l : Launch) (D : va_G) (T : Nat → ClassId) (b : Nat → Nat) (y : Nat → Nat → Int32) (w : Int64) (z : Int32) (u : Nat) (hu : y 0 0 = nI u) (hu8 : u ≤ 8) (sz : Nat) : Met l yX10_setTideLimit wsX10_setTideLimit ({ frames := 3, cells := 0, slots := 0, locals := 68 } : Room) (va_Pc [.ref (b 0), .int (z)] (PS D T (REF T b y w) sz)) (va_Qi (fun r9 (_ : Unit) => r9 = (if rg z 0 7 then y 1 3 else 0)) (fun _ t => QS D T (va_A (REF T b y w) sz) (REF T b (if rg z 0 7 then va_up (rKeep (yS y 3 0)) 1 (va_up (y 1) 3 z) else yS y 3 1) w) t) (va_A (REF T b y w) sz)) 0 0 (va_A (REF T b y w) sz) := by
  refine metSi (cc := cX10_setTideLimit) (maxL := 2) (ty := .int) (by decide) rfl (by rfl) (Nat.le_of_ble_eq_true rfl) ?_
  intro p e s m args below meth c Q ls A hx hb hml hown hts hP hK hD hA hS hl hret
  have hown : s.vm.findClass RX10 = some m.cls := hown
  have hl : lv_has ls 2 [(0, .ref (b 0)), (1, .int (z))] := hl
  have i10 : ∀ w ∈ wsX100, w ∈ wsX10_setTideLimit := by decide +kernel
  have w1 := hts (Cond.fieldLink RX10 51 "MoonComplaintWindowModel" "thrown" "I") (List.mem_of_getElem? (i := 1) rfl)
  refine lv_aload_n hx hb dX10_setTideLimit_0 rfl (lv_at hl 0 rfl) ?_
  refine lv_iconst (v := 0) hx hb dX10_setTideLimit_1 (by decide) ?_
  refine va_put (D := D) (ci := 10) (v := .int (0)) (ty := .int) (C := RX10) (T := TX10) (N := 19) hx hb hts i10 tyX10 tyX10_ok nmX10 hown hK hP hD hS 0 rfl rfl 10 (by decide) w1 (fun _ h9 => h9) rfl (by decide +kernel) rfl rfl (Nat.le_of_ble_eq_true rfl) dX10_setTideLimit_2 (fun H locs hP hD hS => ?_)
  have hP : va_P D vwCl (REF T b (yS y 3 0) w) H := hP
  have hD : va_D A (REF T b (yS y 3 0) w) := hD
  refine lv_iload_n hx hb dX10_setTideLimit_5 rfl (lv_at hl 1 rfl) ?_
  refine lv_iconst (v := 0) hx hb dX10_setTideLimit_6 (by decide) ?_
  refine lv_bipush (v := 7) hx hb dX10_setTideLimit_7 (by decide) ?_
  refine rdT (As := [.int (z), .int (0), .int (7)]) (rest := []) ⟨hx, hb, hml, hown, hts⟩ (c_X10_in l D T z 0 7 ) (va_cwS 3 hts gX10_setTideLimit_X10_in rfl rfl rfl (by decide +kernel) ⟨Nat.le_of_ble_eq_true rfl, Nat.le_of_ble_eq_true rfl⟩) rfl hl.1 rfl (Nat.le_of_ble_eq_true rfl) ⟨Nat.zero_le _, Nat.zero_le _⟩ dX10_setTideLimit_9 ?_
  refine lv_if_ne (tgt := 21) hx hb dX10_setTideLimit_12 (by decide) (fun c12 => ?_) (fun c12 => ?_)
  ·
    have c12 := bI_n0.mp c12
    refine lv_aload_n hx hb dX10_setTideLimit_21 rfl (lv_at hl 0 rfl) ?_
    refine lv_iconst (v := 3) hx hb dX10_setTideLimit_22 (by decide) ?_
    refine lv_iload_n hx hb dX10_setTideLimit_23 rfl (lv_at hl 1 rfl) ?_
    refine wrVi (As := [.int (3), .int (z)]) (rest := []) ⟨hx, hb, hml, hown, hts⟩ (c_X10_sets l D T b (yS y 3 0) w 3 z u hu hu8 (by omega) _) (cwV 2 hts gX10_setTideLimit_X10_sets rfl rfl rfl (by decide +kernel) ⟨Nat.le_of_ble_eq_true rfl, Nat.le_of_ble_eq_true rfl⟩) (Foc.rfl _ _) hK hP hD hS hA 0 rfl rfl rfl hl.1 rfl (Nat.le_of_ble_eq_true rfl) ⟨Nat.zero_le _, Nat.zero_le _⟩ dX10_setTideLimit_24 (fun H locs hP hD hS => ?_)
    have hP : va_P D vwCl (REF T b (va_up (rKeep (yS y 3 0)) 1 (va_up ((yS y 3 0) 1) 3 z)) w) H := hP
    have hD : va_D A (REF T b (va_up (rKeep (yS y 3 0)) 1 (va_up ((yS y 3 0) 1) 3 z)) w) := hD
    refine endI (r := if rg z 0 7 then y 1 3 else 0) (by first | (simp [c12]; done) | (rw [if_pos c12]; rfl)) ?_
    have hE : (va_up (rKeep (yS y 3 0)) 1 (va_up ((yS y 3 0) 1) 3 z)) = (if rg z 0 7 then va_up (rKeep (yS y 3 0)) 1 (va_up (y 1) 3 z) else yS y 3 1) := by first | (simp [yS_same, c12]; done) | (rw [if_pos c12]; rfl)
    exact hret _ _ _ _ dX10_setTideLimit_27 (by rw [← hE]; exact hP) (by rw [← hE]; exact hD) hS
  ·
    have c12 := bI_0.mp c12
    refine lv_aload_n hx hb dX10_setTideLimit_15 rfl (lv_at hl 0 rfl) ?_
    refine lv_iconst (v := 1) hx hb dX10_setTideLimit_16 (by decide) ?_
    refine wrVi (As := [.int (1)]) (rest := []) ⟨hx, hb, hml, hown, hts⟩ (c_X10_fails l D T b (yS y 3 0) w 1 _) (cwV 1 hts gX10_setTideLimit_X10_fails rfl rfl rfl (by decide +kernel) ⟨Nat.le_of_ble_eq_true rfl, Nat.le_of_ble_eq_true rfl⟩) (Foc.rfl _ _) hK hP hD hS hA 0 rfl rfl rfl hl.1 rfl (Nat.le_of_ble_eq_true rfl) ⟨Nat.zero_le _, Nat.zero_le _⟩ dX10_setTideLimit_17 (fun H locs hP hD hS => ?_)
    have hP : va_P D vwCl (REF T b (yS (yS y 3 0) 3 1) w) H := hP
    have hD : va_D A (REF T b (yS (yS y 3 0) 3 1) w) := hD
    refine endI (r := if rg z 0 7 then y 1 3 else 0) (by first | (simp [c12]; done) | (rw [if_pos c12]; rfl)) ?_
    have hE : (yS (yS y 3 0) 3 1) = (if rg z 0 7 then va_up (rKeep (yS y 3 0)) 1 (va_up (y 1) 3 z) else yS y 3 1) := by first | (simp [yS_same, c12]; done) | (rw [if_pos c12]; rfl)
    exact hret _ _ _ _ dX10_setTideLimit_20 (by rw [← hE]; exact hP) (by rw [← hE]; exact hD) hS

set_option maxHeartbeats 4000000 in
set_option maxRecDepth 100000 in
theorem c_X10_endNights (l : Launch) (D : va_G) (T : Nat → ClassId) (b : Nat → Nat) (y : Nat → Nat → Int32) (w : Int64) (z : Int32) (N : Nat) (K : Nat) (C : Nat) (nt : Nat) (u : Nat) (hRI : RI (y 1) N K C nt) (hu : y 0 0 = nI u) (hu8 : u ≤ 8) (sz : Nat) : Met l yX10_endNights wsX10_endNights ({ frames := 8, cells := 0, slots := 0, locals := 173 } : Room) (va_Pc [.ref (b 0), .int (z)] (PS D T (REF T b y w) sz)) (va_Qi (fun r9 (_ : Unit) => r9 = (if rg z 1 60 then (if nt + z.toNatClampNeg ≤ 999 then (iter (endsI N K C nt) z.toNatClampNeg 0 (0, y 1)).1 else 0) else 0)) (fun _ t => QS D T (va_A (REF T b y w) sz) (REF T b (if rg z 1 60 then (if nt + z.toNatClampNeg ≤ 999 then va_up (rKeep (yS y 3 0)) 1 (iter (endsI N K C nt) z.toNatClampNeg 0 (0, y 1)).2 else yS y 3 2) else yS y 3 1) w) t) (va_A (REF T b y w) sz)) 0 0 (va_A (REF T b y w) sz) := by
  refine metSi (cc := cX10_endNights) (maxL := 4) (ty := .int) (by decide) rfl (by rfl) (Nat.le_of_ble_eq_true rfl) ?_
  intro p e s m args below meth c Q ls A hx hb hml hown hts hP hK hD hA hS hl hret
  have hown : s.vm.findClass RX10 = some m.cls := hown
  have hl : lv_has ls 4 [(0, .ref (b 0)), (1, .int (z))] := hl
  have i10 : ∀ w ∈ wsX100, w ∈ wsX10_endNights := by decide +kernel
  have w1 := hts (Cond.fieldLink RX10 51 "MoonComplaintWindowModel" "thrown" "I") (List.mem_of_getElem? (i := 1) rfl)
  have w2 := hts (Cond.fieldLink RX10 7 "MoonComplaintWindowModel" "now" "[I") (List.mem_of_getElem? (i := 2) rfl)
  obtain ⟨hN, hN2, hKn, hK2, hC, hC1, hC2, hn, hnt, hSo, hSK⟩ := id hRI
  refine lv_aload_n hx hb dX10_endNights_0 rfl (lv_at hl 0 rfl) ?_
  refine lv_iconst (v := 0) hx hb dX10_endNights_1 (by decide) ?_
  refine va_put (D := D) (ci := 10) (v := .int (0)) (ty := .int) (C := RX10) (T := TX10) (N := 19) hx hb hts i10 tyX10 tyX10_ok nmX10 hown hK hP hD hS 0 rfl rfl 10 (by decide) w1 (fun _ h9 => h9) rfl (by decide +kernel) rfl rfl (Nat.le_of_ble_eq_true rfl) dX10_endNights_2 (fun H locs hP hD hS => ?_)
  have hP : va_P D vwCl (REF T b (yS y 3 0) w) H := hP
  have hD : va_D A (REF T b (yS y 3 0) w) := hD
  refine lv_iload_n hx hb dX10_endNights_5 rfl (lv_at hl 1 rfl) ?_
  refine lv_iconst (v := 1) hx hb dX10_endNights_6 (by decide) ?_
  refine lv_bipush (v := 60) hx hb dX10_endNights_7 (by decide) ?_
  refine rdT (As := [.int (z), .int (1), .int (60)]) (rest := []) ⟨hx, hb, hml, hown, hts⟩ (c_X10_in l D T z 1 60 ) (va_cwS 3 hts gX10_endNights_X10_in rfl rfl rfl (by decide +kernel) ⟨Nat.le_of_ble_eq_true rfl, Nat.le_of_ble_eq_true rfl⟩) rfl hl.1 rfl (Nat.le_of_ble_eq_true rfl) ⟨Nat.zero_le _, Nat.zero_le _⟩ dX10_endNights_9 ?_
  refine lv_if_ne (tgt := 21) hx hb dX10_endNights_12 (by decide) (fun c12 => ?_) (fun c12 => ?_)
  ·
    have c12 := bI_n0.mp c12
    obtain ⟨q, hq, hqz, hqc⟩ := rg_nat (n := 60) (by decide) (show rg z 0 (nI 60) = true from by simp only [rg, Bool.and_eq_true, decide_eq_true_eq] at c12 ⊢; exact ⟨Int32.le_trans (by decide) c12.1, c12.2⟩)
    rw [hqz] at hl
    have hl : lv_has ls 4 [(0, .ref (b 0)), (1, .int (nI q))] := hl
    refine lv_aload_n hx hb dX10_endNights_21 rfl (lv_at hl 0 rfl) ?_
    refine va_get (D := D) (ci := 10) (v := .ref (b 1)) (C := RX10) (T := TX10) (N := 19) hx hb hts i10 hown hK hP 0 rfl rfl 0 (by decide) w2 (fun _ h9 => h9) rfl dX10_endNights_22 ?_
    refine lv_iconst (v := 0) hx hb dX10_endNights_25 (by decide) ?_
    refine aldI hx hb hK hP 1 0 rfl rfl (0) rfl (by omega) (by decide) dX10_endNights_26 ?_
    refine endI (r := nI nt) (hn) ?_
    refine lv_iload_n hx hb dX10_endNights_27 rfl (lv_at hl 1 rfl) ?_
    refine lv_iadd hx hb dX10_endNights_28 ?_
    refine endI (r := nI (nt + q)) (nI_add _ _) ?_
    refine lv_sipush (v := 999) hx hb dX10_endNights_29 (by decide) ?_
    refine lv_icmp_le (tgt := 41) hx hb dX10_endNights_32 (by decide) (fun c32 => ?_) (fun c32 => ?_)
    ·
      have c32 : (nt + q) ≤ 999 := (nI_leI (a := (nt + q)) (b := 999) (by omega) (by omega)).mp c32
      refine lv_aload_n hx hb dX10_endNights_41 rfl (lv_at hl 0 rfl) ?_
      refine wrVv (As := []) (rest := []) ⟨hx, hb, hml, hown, hts⟩ (c_X10_keepsForUndo l D T b (yS y 3 0) w u hu hu8 _) (cwV 0 hts gX10_endNights_X10_keepsForUndo rfl rfl rfl (by decide +kernel) ⟨Nat.le_of_ble_eq_true rfl, Nat.le_of_ble_eq_true rfl⟩) (Foc.rfl _ _) hK hP hD hS hA 0 rfl rfl rfl hl.1 rfl (Nat.le_of_ble_eq_true rfl) ⟨Nat.zero_le _, Nat.zero_le _⟩ dX10_endNights_42 (fun H locs hP hD hS => ?_)
      have hP : va_P D vwCl (REF T b (rKeep (yS y 3 0)) w) H := hP
      have hD : va_D A (REF T b (rKeep (yS y 3 0)) w) := hD
      refine lv_iconst (v := 0) hx hb dX10_endNights_45 (by decide) ?_
      refine lv_istore_n (lv' := [(2, .int (0)), (0, .ref (b 0)), (1, .int (nI q))]) hx hb dX10_endNights_46 rfl hl (by decide) rfl (fun ls hl => ?_)
      refine lv_iconst (v := 0) hx hb dX10_endNights_47 (by decide) ?_
      refine lv_istore_n (lv' := [(3, .int (0)), (2, .int (0)), (0, .ref (b 0)), (1, .int (nI q))]) hx hb dX10_endNights_48 rfl hl (by decide) rfl (fun ls hl => ?_)
      have L49 : ∀ (n9 : Nat) (k : Nat) (x : Int32) (r1 : Nat → Int32), (q - k) < n9 → (k ≤ q) → (iter (endsI N K C nt) (q - k) k (x, r1) = iter (endsI N K C nt) q 0 (0, y 1)) → (RI r1 N K C (nt + k)) → ∀ (H : Heap) (locs : List Loc) (ls : Array Slot), va_P D vwCl (REF T b (va_up (rKeep (yS y 3 0)) 1 r1) w) H → va_D A (REF T b (va_up (rKeep (yS y 3 0)) 1 r1) w) → va_S A s.heap H locs → lv_has ls 4 [(3, .int (nI k)), (2, .int (x)), (0, .ref (b 0)), (1, .int (nI q))] → W p l e ({ frames := 8, cells := 0, slots := 0, locals := 173 } : Room) s m args below meth c H locs 0 0 Q (F0 m 49 ls []) := by
        intro n9
        induction n9 with
        | zero => intro k x r1 hm9; exact absurd hm9 (Nat.not_lt_zero _)
        | succ n9 ih =>
          intro k x r1 hm9 hk9 hR hr1 H locs ls hP hD hS hl
          obtain ⟨gN, gN2, gKn, gK2, gC, gC1, gC2, gn, gnt, gSo, gSK⟩ := id hr1
          refine lv_iload_n hx hb dX10_endNights_49 rfl (lv_at hl 0 rfl) ?_
          refine lv_iload_n hx hb dX10_endNights_50 rfl (lv_at hl 3 rfl) ?_
          refine lv_icmp_ge (tgt := 70) hx hb dX10_endNights_51 (by decide) (fun c51 => ?_) (fun c51 => ?_)
          ·
            have c51 : q ≤ k := (nI_leI (a := q) (b := k) (by omega) (by omega)).mp c51
            refine lv_iload_n hx hb dX10_endNights_70 rfl (lv_at hl 1 rfl) ?_
            refine endI (r := if rg z 1 60 then (if nt + z.toNatClampNeg ≤ 999 then (iter (endsI N K C nt) z.toNatClampNeg 0 (0, y 1)).1 else 0) else 0) (by first | (simp [c12, c32, c51]; done) | (simp [c12, c32, c51, hqc]; done) | (rw [iter_done (by omega)] at hR; rw [if_pos c12, hqc, if_pos c32, ← hR])) ?_
            have hE : (va_up (rKeep (yS y 3 0)) 1 r1) = (if rg z 1 60 then (if nt + z.toNatClampNeg ≤ 999 then va_up (rKeep (yS y 3 0)) 1 (iter (endsI N K C nt) z.toNatClampNeg 0 (0, y 1)).2 else yS y 3 2) else yS y 3 1) := by first | (simp [yS_same, c12, c32, c51]; done) | (simp [yS_same, c12, c32, c51, hqc]; done) | (rw [iter_done (by omega)] at hR; rw [if_pos c12, hqc, if_pos c32, ← hR])
            exact hret _ _ _ _ dX10_endNights_71 (by rw [← hE]; exact hP) (by rw [← hE]; exact hD) hS
          ·
            have c51 : ¬ q ≤ k := fun h9 => c51 ((nI_leI (a := q) (b := k) (by omega) (by omega)).mpr h9)
            refine lv_iload_n hx hb dX10_endNights_54 rfl (lv_at hl 1 rfl) ?_
            refine lv_aload_n hx hb dX10_endNights_55 rfl (lv_at hl 2 rfl) ?_
            refine va_get (D := D) (ci := 10) (v := .ref (b 1)) (C := RX10) (T := TX10) (N := 19) hx hb hts i10 hown hK hP 0 rfl rfl 0 (by decide) w2 (fun _ h9 => h9) rfl dX10_endNights_56 ?_
            refine wrSi (As := [.ref (b 1)]) (rest := [.int (x)]) ⟨hx, hb, hml, hown, hts⟩ (c_X10_ends l D T (b 1) r1 N C (nt + k) K gN gN2 gC gC1 gC2 gn (by omega) gSo gKn gK2 gSK _) (va_cwS 1 hts gX10_endNights_X10_ends rfl rfl rfl (by decide +kernel) ⟨Nat.le_of_ble_eq_true rfl, Nat.le_of_ble_eq_true rfl⟩) (show Foc (REF T b (va_up (rKeep (yS y 3 0)) 1 r1) w) _ (REF T b (va_up (rKeep (yS y 3 0)) 1 (rEnds N K C (nt + k) r1)) w) _ from Foc.one 1 rfl) hK hP hD hS hA rfl hl.1 rfl (Nat.le_of_ble_eq_true rfl) ⟨Nat.zero_le _, Nat.zero_le _⟩ dX10_endNights_59 (fun H locs hP hD hS => ?_)
            have hP : va_P D vwCl (REF T b (va_up (rKeep (yS y 3 0)) 1 (rEnds N K C (nt + k) r1)) w) H := hP
            have hD : va_D A (REF T b (va_up (rKeep (yS y 3 0)) 1 (rEnds N K C (nt + k) r1)) w) := hD
            refine lv_iadd hx hb dX10_endNights_62 ?_
            refine lv_istore_n (lv' := [(2, .int (x + (cntR (rEnds N K C (nt + k) r1) 1 N - cntR r1 1 N))), (3, .int (nI k)), (0, .ref (b 0)), (1, .int (nI q))]) hx hb dX10_endNights_63 rfl hl (by decide) rfl (fun ls hl => ?_)
            refine lv_iinc (v := nI (k + 1)) (lv' := [(3, .int (nI (k + 1))), (2, .int (x + (cntR (rEnds N K C (nt + k) r1) 1 N - cntR r1 1 N))), (0, .ref (b 0)), (1, .int (nI q))]) hx hb dX10_endNights_64 hl (k := 1) rfl (nI_1 _) (by decide) rfl (fun ls hl => ?_)
            refine lv_goto (tgt := 49) hx hb dX10_endNights_67 (by decide) ?_
            exact ih (k + 1) (x + (cntR (rEnds N K C (nt + k) r1) 1 N - cntR r1 1 N)) (rEnds N K C (nt + k) r1) (by omega) (by omega) (by rw [iter_step (by omega)] at hR; exact hR) (by exact hr1.ends (by omega)) _ _ _ hP hD hS (lv_sub hl [0, 1, 2, 3] rfl)
      exact L49 _ 0 0 ((rKeep (yS y 3 0)) 1) (Nat.lt_succ_self _) (by omega) (by rfl) (by exact hRI) _ _ _ hP hD hS (lv_sub hl [0, 1, 2, 3] rfl)
    ·
      have c32 : ¬ (nt + q) ≤ 999 := fun h9 => c32 ((nI_leI (a := (nt + q)) (b := 999) (by omega) (by omega)).mpr h9)
      refine lv_aload_n hx hb dX10_endNights_35 rfl (lv_at hl 0 rfl) ?_
      refine lv_iconst (v := 2) hx hb dX10_endNights_36 (by decide) ?_
      refine wrVi (As := [.int (2)]) (rest := []) ⟨hx, hb, hml, hown, hts⟩ (c_X10_fails l D T b (yS y 3 0) w 2 _) (cwV 1 hts gX10_endNights_X10_fails rfl rfl rfl (by decide +kernel) ⟨Nat.le_of_ble_eq_true rfl, Nat.le_of_ble_eq_true rfl⟩) (Foc.rfl _ _) hK hP hD hS hA 0 rfl rfl rfl hl.1 rfl (Nat.le_of_ble_eq_true rfl) ⟨Nat.zero_le _, Nat.zero_le _⟩ dX10_endNights_37 (fun H locs hP hD hS => ?_)
      have hP : va_P D vwCl (REF T b (yS (yS y 3 0) 3 2) w) H := hP
      have hD : va_D A (REF T b (yS (yS y 3 0) 3 2) w) := hD
      refine endI (r := if rg z 1 60 then (if nt + z.toNatClampNeg ≤ 999 then (iter (endsI N K C nt) z.toNatClampNeg 0 (0, y 1)).1 else 0) else 0) (by first | (simp [c12, c32]; done) | (simp [c12, c32, hqc]; done) | (rw [iter_done (by omega)] at hR; rw [if_pos c12, hqc, if_pos c32, ← hR])) ?_
      have hE : (yS (yS y 3 0) 3 2) = (if rg z 1 60 then (if nt + z.toNatClampNeg ≤ 999 then va_up (rKeep (yS y 3 0)) 1 (iter (endsI N K C nt) z.toNatClampNeg 0 (0, y 1)).2 else yS y 3 2) else yS y 3 1) := by first | (simp [yS_same, c12, c32]; done) | (simp [yS_same, c12, c32, hqc]; done) | (rw [iter_done (by omega)] at hR; rw [if_pos c12, hqc, if_pos c32, ← hR])
      exact hret _ _ _ _ dX10_endNights_40 (by rw [← hE]; exact hP) (by rw [← hE]; exact hD) hS
  ·
    have c12 := bI_0.mp c12
    refine lv_aload_n hx hb dX10_endNights_15 rfl (lv_at hl 0 rfl) ?_
    refine lv_iconst (v := 1) hx hb dX10_endNights_16 (by decide) ?_
    refine wrVi (As := [.int (1)]) (rest := []) ⟨hx, hb, hml, hown, hts⟩ (c_X10_fails l D T b (yS y 3 0) w 1 _) (cwV 1 hts gX10_endNights_X10_fails rfl rfl rfl (by decide +kernel) ⟨Nat.le_of_ble_eq_true rfl, Nat.le_of_ble_eq_true rfl⟩) (Foc.rfl _ _) hK hP hD hS hA 0 rfl rfl rfl hl.1 rfl (Nat.le_of_ble_eq_true rfl) ⟨Nat.zero_le _, Nat.zero_le _⟩ dX10_endNights_17 (fun H locs hP hD hS => ?_)
    have hP : va_P D vwCl (REF T b (yS (yS y 3 0) 3 1) w) H := hP
    have hD : va_D A (REF T b (yS (yS y 3 0) 3 1) w) := hD
    refine endI (r := if rg z 1 60 then (if nt + z.toNatClampNeg ≤ 999 then (iter (endsI N K C nt) z.toNatClampNeg 0 (0, y 1)).1 else 0) else 0) (by first | (simp [c12]; done) | (simp [c12, hqc]; done) | (rw [iter_done (by omega)] at hR; rw [if_pos c12, hqc, if_pos c32, ← hR])) ?_
    have hE : (yS (yS y 3 0) 3 1) = (if rg z 1 60 then (if nt + z.toNatClampNeg ≤ 999 then va_up (rKeep (yS y 3 0)) 1 (iter (endsI N K C nt) z.toNatClampNeg 0 (0, y 1)).2 else yS y 3 2) else yS y 3 1) := by first | (simp [yS_same, c12]; done) | (simp [yS_same, c12, hqc]; done) | (rw [iter_done (by omega)] at hR; rw [if_pos c12, hqc, if_pos c32, ← hR])
    exact hret _ _ _ _ dX10_endNights_20 (by rw [← hE]; exact hP) (by rw [← hE]; exact hD) hS

set_option maxHeartbeats 4000000 in
set_option maxRecDepth 100000 in
theorem c_X10_undo (l : Launch) (D : va_G) (T : Nat → ClassId) (b : Nat → Nat) (y : Nat → Nat → Int32) (w : Int64) (u : Nat) (hu : y 0 0 = nI u) (hu8 : u ≤ 8) (sz : Nat) : Met l yX10_undo wsX10_undo ({ frames := 1, cells := 0, slots := 0, locals := 24 } : Room) (va_Pc [.ref (b 0)] (PS D T (REF T b y w) sz)) (va_Qi (fun r9 (_ : Unit) => r9 = (if u = 0 then 0 else nI (u - 1))) (fun _ t => QS D T (va_A (REF T b y w) sz) (REF T b (if u = 0 then yS y 3 1 else yS (yS (va_up y 1 (rLay (y 4) (202 * (u - 1)) 0 (y 1))) 3 0) 0 (nI (u - 1))) w) t) (va_A (REF T b y w) sz)) 0 0 (va_A (REF T b y w) sz) := by
  refine metSi (cc := cX10_undo) (maxL := 1) (ty := .int) (by decide) rfl (by rfl) (Nat.le_of_ble_eq_true rfl) ?_
  intro p e s m args below meth c Q ls A hx hb hml hown hts hP hK hD hA hS hl hret
  have hown : s.vm.findClass RX10 = some m.cls := hown
  have hl : lv_has ls 1 [(0, .ref (b 0))] := hl
  have i10 : ∀ w ∈ wsX100, w ∈ wsX10_undo := by decide +kernel
  have w1 := hts (Cond.fieldLink RX10 51 "MoonComplaintWindowModel" "thrown" "I") (List.mem_of_getElem? (i := 1) rfl)
  have w2 := hts (Cond.fieldLink RX10 257 "MoonComplaintWindowModel" "undos" "I") (List.mem_of_getElem? (i := 2) rfl)
  have w3 := hts (Cond.fieldLink RX10 19 "MoonComplaintWindowModel" "earlier" "[I") (List.mem_of_getElem? (i := 3) rfl)
  have w4 := hts (Cond.fieldLink RX10 7 "MoonComplaintWindowModel" "now" "[I") (List.mem_of_getElem? (i := 4) rfl)
  refine lv_aload_n hx hb dX10_undo_0 rfl (lv_at hl 0 rfl) ?_
  refine lv_iconst (v := 0) hx hb dX10_undo_1 (by decide) ?_
  refine va_put (D := D) (ci := 10) (v := .int (0)) (ty := .int) (C := RX10) (T := TX10) (N := 19) hx hb hts i10 tyX10 tyX10_ok nmX10 hown hK hP hD hS 0 rfl rfl 10 (by decide) w1 (fun _ h9 => h9) rfl (by decide +kernel) rfl rfl (Nat.le_of_ble_eq_true rfl) dX10_undo_2 (fun H locs hP hD hS => ?_)
  have hP : va_P D vwCl (REF T b (yS y 3 0) w) H := hP
  have hD : va_D A (REF T b (yS y 3 0) w) := hD
  refine lv_aload_n hx hb dX10_undo_5 rfl (lv_at hl 0 rfl) ?_
  refine va_get (D := D) (ci := 10) (v := .int (y 0 0)) (C := RX10) (T := TX10) (N := 19) hx hb hts i10 hown hK hP 0 rfl rfl 6 (by decide) w2 (fun _ h9 => h9) rfl dX10_undo_6 ?_
  refine endI (r := nI u) (hu) ?_
  refine lv_if_ne (tgt := 18) hx hb dX10_undo_9 (by decide) (fun c9 => ?_) (fun c9 => ?_)
  ·
    have c9 : ¬ u = 0 := fun h9 => c9 ((nI_eq (a := u) (b := 0) (by omega) (by omega)).mpr h9)
    refine lv_aload_n hx hb dX10_undo_18 rfl (lv_at hl 0 rfl) ?_
    refine lv_dup hx hb dX10_undo_19 rfl ?_
    refine va_get (D := D) (ci := 10) (v := .int (y 0 0)) (C := RX10) (T := TX10) (N := 19) hx hb hts i10 hown hK hP 0 rfl rfl 6 (by decide) w2 (fun _ h9 => h9) rfl dX10_undo_20 ?_
    refine endI (r := nI u) (hu) ?_
    refine lv_iconst (v := 1) hx hb dX10_undo_23 (by decide) ?_
    refine lv_isub hx hb dX10_undo_24 ?_
    refine endI (r := nI (u - 1)) (pk_sub (a := u) (b := 1) (by omega)) ?_
    refine va_put (D := D) (ci := 10) (v := .int (nI (u - 1))) (ty := .int) (C := RX10) (T := TX10) (N := 19) hx hb hts i10 tyX10 tyX10_ok nmX10 hown hK hP hD hS 0 rfl rfl 6 (by decide) w2 (fun _ h9 => h9) rfl (by decide +kernel) rfl rfl (Nat.le_of_ble_eq_true rfl) dX10_undo_25 (fun H locs hP hD hS => ?_)
    have hP : va_P D vwCl (REF T b (yS (yS y 3 0) 0 (nI (u - 1))) w) H := hP
    have hD : va_D A (REF T b (yS (yS y 3 0) 0 (nI (u - 1))) w) := hD
    refine lv_aload_n hx hb dX10_undo_28 rfl (lv_at hl 0 rfl) ?_
    refine va_get (D := D) (ci := 10) (v := .ref (b 4)) (C := RX10) (T := TX10) (N := 19) hx hb hts i10 hown hK hP 0 rfl rfl 3 (by decide) w3 (fun _ h9 => h9) rfl dX10_undo_29 ?_
    refine lv_sipush (v := 202) hx hb dX10_undo_32 (by decide) ?_
    refine lv_aload_n hx hb dX10_undo_35 rfl (lv_at hl 0 rfl) ?_
    refine va_get (D := D) (ci := 10) (v := .int (nI (u - 1))) (C := RX10) (T := TX10) (N := 19) hx hb hts i10 hown hK hP 0 rfl rfl 6 (by decide) w2 (fun _ h9 => h9) rfl dX10_undo_36 ?_
    refine lv_imul hx hb dX10_undo_39 ?_
    refine endI (r := nI (202 * (u - 1))) (pk_mul _ _) ?_
    refine lv_aload_n hx hb dX10_undo_40 rfl (lv_at hl 0 rfl) ?_
    refine va_get (D := D) (ci := 10) (v := .ref (b 1)) (C := RX10) (T := TX10) (N := 19) hx hb hts i10 hown hK hP 0 rfl rfl 0 (by decide) w4 (fun _ h9 => h9) rfl dX10_undo_41 ?_
    refine lv_iconst (v := 0) hx hb dX10_undo_44 (by decide) ?_
    refine wrSv (As := [.ref (b 4), .int (nI (202 * (u - 1))), .ref (b 1), .int (0)]) (rest := []) ⟨hx, hb, hml, hown, hts⟩ (c_X10_layRow l D T (b 4) 1616 (y 4) (b 1) 202 (y 1) (202 * (u - 1)) 0 (by first | omega | assumption | decide) (by first | omega | assumption | decide) (by first | omega | assumption | decide) (by first | omega | assumption | decide) _) (va_cwS 4 hts gX10_undo_X10_layRow rfl rfl rfl (by decide +kernel) ⟨Nat.le_of_ble_eq_true rfl, Nat.le_of_ble_eq_true rfl⟩) (show Foc (REF T b (yS (yS y 3 0) 0 (nI (u - 1))) w) _ (REF T b (yS (yS (va_up y 1 (rLay (y 4) (202 * (u - 1)) 0 (y 1))) 3 0) 0 (nI (u - 1))) w) _ from Foc.two 1 3 rfl rfl) hK hP hD hS hA rfl hl.1 rfl (Nat.le_of_ble_eq_true rfl) ⟨Nat.zero_le _, Nat.zero_le _⟩ dX10_undo_45 (fun H locs hP hD hS => ?_)
    have hP : va_P D vwCl (REF T b (yS (yS (va_up y 1 (rLay (y 4) (202 * (u - 1)) 0 (y 1))) 3 0) 0 (nI (u - 1))) w) H := hP
    have hD : va_D A (REF T b (yS (yS (va_up y 1 (rLay (y 4) (202 * (u - 1)) 0 (y 1))) 3 0) 0 (nI (u - 1))) w) := hD
    refine lv_aload_n hx hb dX10_undo_48 rfl (lv_at hl 0 rfl) ?_
    refine va_get (D := D) (ci := 10) (v := .int (nI (u - 1))) (C := RX10) (T := TX10) (N := 19) hx hb hts i10 hown hK hP 0 rfl rfl 6 (by decide) w2 (fun _ h9 => h9) rfl dX10_undo_49 ?_
    refine endI (r := if u = 0 then 0 else nI (u - 1)) (by simp [c9]) ?_
    have hE : (yS (yS (va_up y 1 (rLay (y 4) (202 * (u - 1)) 0 (y 1))) 3 0) 0 (nI (u - 1))) = (if u = 0 then yS y 3 1 else yS (yS (va_up y 1 (rLay (y 4) (202 * (u - 1)) 0 (y 1))) 3 0) 0 (nI (u - 1))) := by first | (simp [yS_same, c9]; done)
    exact hret _ _ _ _ dX10_undo_52 (by rw [← hE]; exact hP) (by rw [← hE]; exact hD) hS
  ·
    have c9 : u = 0 := (nI_eq (a := u) (b := 0) (by omega) (by omega)).mp c9
    refine lv_aload_n hx hb dX10_undo_12 rfl (lv_at hl 0 rfl) ?_
    refine lv_iconst (v := 1) hx hb dX10_undo_13 (by decide) ?_
    refine wrVi (As := [.int (1)]) (rest := []) ⟨hx, hb, hml, hown, hts⟩ (c_X10_fails l D T b (yS y 3 0) w 1 _) (cwV 1 hts gX10_undo_X10_fails rfl rfl rfl (by decide +kernel) ⟨Nat.le_of_ble_eq_true rfl, Nat.le_of_ble_eq_true rfl⟩) (Foc.rfl _ _) hK hP hD hS hA 0 rfl rfl rfl hl.1 rfl (Nat.le_of_ble_eq_true rfl) ⟨Nat.zero_le _, Nat.zero_le _⟩ dX10_undo_14 (fun H locs hP hD hS => ?_)
    have hP : va_P D vwCl (REF T b (yS (yS y 3 0) 3 1) w) H := hP
    have hD : va_D A (REF T b (yS (yS y 3 0) 3 1) w) := hD
    refine endI (r := if u = 0 then 0 else nI (u - 1)) (by simp [c9]) ?_
    have hE : (yS (yS y 3 0) 3 1) = (if u = 0 then yS y 3 1 else yS (yS (va_up y 1 (rLay (y 4) (202 * (u - 1)) 0 (y 1))) 3 0) 0 (nI (u - 1))) := by first | (simp [yS_same, c9]; done)
    exact hret _ _ _ _ dX10_undo_17 (by rw [← hE]; exact hP) (by rw [← hE]; exact hD) hS

set_option maxHeartbeats 4000000 in
set_option maxRecDepth 100000 in
theorem c_X10_saveSnapshot (l : Launch) (D : va_G) (T : Nat → ClassId) (b : Nat → Nat) (y : Nat → Nat → Int32) (w : Int64) (z : Int32) (sz : Nat) : Met l yX10_saveSnapshot wsX10_saveSnapshot ({ frames := 1, cells := 0, slots := 0, locals := 24 } : Room) (va_Pc [.ref (b 0), .int (z)] (PS D T (REF T b y w) sz)) (va_Qi (fun r9 (_ : Unit) => r9 = (if rg z 0 1 then y 1 0 else 0)) (fun _ t => QS D T (va_A (REF T b y w) sz) (REF T b (if rg z 0 1 then yS (va_up (va_up y 5 (rLay (y 1) 0 (202 * z.toNatClampNeg) (y 5))) 6 (va_up (y 6) z.toNatClampNeg 1)) 3 0 else yS y 3 1) w) t) (va_A (REF T b y w) sz)) 0 0 (va_A (REF T b y w) sz) := by
  refine metSi (cc := cX10_saveSnapshot) (maxL := 2) (ty := .int) (by decide) rfl (by rfl) (Nat.le_of_ble_eq_true rfl) ?_
  intro p e s m args below meth c Q ls A hx hb hml hown hts hP hK hD hA hS hl hret
  have hown : s.vm.findClass RX10 = some m.cls := hown
  have hl : lv_has ls 2 [(0, .ref (b 0)), (1, .int (z))] := hl
  have i10 : ∀ w ∈ wsX100, w ∈ wsX10_saveSnapshot := by decide +kernel
  have w1 := hts (Cond.fieldLink RX10 51 "MoonComplaintWindowModel" "thrown" "I") (List.mem_of_getElem? (i := 1) rfl)
  have w2 := hts (Cond.fieldLink RX10 7 "MoonComplaintWindowModel" "now" "[I") (List.mem_of_getElem? (i := 2) rfl)
  have w3 := hts (Cond.fieldLink RX10 22 "MoonComplaintWindowModel" "slots" "[I") (List.mem_of_getElem? (i := 3) rfl)
  have w4 := hts (Cond.fieldLink RX10 25 "MoonComplaintWindowModel" "isKept" "[Z") (List.mem_of_getElem? (i := 4) rfl)
  refine lv_aload_n hx hb dX10_saveSnapshot_0 rfl (lv_at hl 0 rfl) ?_
  refine lv_iconst (v := 0) hx hb dX10_saveSnapshot_1 (by decide) ?_
  refine va_put (D := D) (ci := 10) (v := .int (0)) (ty := .int) (C := RX10) (T := TX10) (N := 19) hx hb hts i10 tyX10 tyX10_ok nmX10 hown hK hP hD hS 0 rfl rfl 10 (by decide) w1 (fun _ h9 => h9) rfl (by decide +kernel) rfl rfl (Nat.le_of_ble_eq_true rfl) dX10_saveSnapshot_2 (fun H locs hP hD hS => ?_)
  have hP : va_P D vwCl (REF T b (yS y 3 0) w) H := hP
  have hD : va_D A (REF T b (yS y 3 0) w) := hD
  refine lv_iload_n hx hb dX10_saveSnapshot_5 rfl (lv_at hl 1 rfl) ?_
  refine lv_iconst (v := 0) hx hb dX10_saveSnapshot_6 (by decide) ?_
  refine lv_iconst (v := 1) hx hb dX10_saveSnapshot_7 (by decide) ?_
  refine rdT (As := [.int (z), .int (0), .int (1)]) (rest := []) ⟨hx, hb, hml, hown, hts⟩ (c_X10_in l D T z 0 1 ) (va_cwS 3 hts gX10_saveSnapshot_X10_in rfl rfl rfl (by decide +kernel) ⟨Nat.le_of_ble_eq_true rfl, Nat.le_of_ble_eq_true rfl⟩) rfl hl.1 rfl (Nat.le_of_ble_eq_true rfl) ⟨Nat.zero_le _, Nat.zero_le _⟩ dX10_saveSnapshot_8 ?_
  refine lv_if_ne (tgt := 20) hx hb dX10_saveSnapshot_11 (by decide) (fun c11 => ?_) (fun c11 => ?_)
  ·
    have c11 := bI_n0.mp c11
    obtain ⟨q, hq, hqz, hqc⟩ := rg_nat (n := 1) (by decide) c11
    rw [hqz] at hl
    have hl : lv_has ls 2 [(0, .ref (b 0)), (1, .int (nI q))] := hl
    refine lv_aload_n hx hb dX10_saveSnapshot_20 rfl (lv_at hl 0 rfl) ?_
    refine va_get (D := D) (ci := 10) (v := .ref (b 1)) (C := RX10) (T := TX10) (N := 19) hx hb hts i10 hown hK hP 0 rfl rfl 0 (by decide) w2 (fun _ h9 => h9) rfl dX10_saveSnapshot_21 ?_
    refine lv_iconst (v := 0) hx hb dX10_saveSnapshot_24 (by decide) ?_
    refine lv_aload_n hx hb dX10_saveSnapshot_25 rfl (lv_at hl 0 rfl) ?_
    refine va_get (D := D) (ci := 10) (v := .ref (b 5)) (C := RX10) (T := TX10) (N := 19) hx hb hts i10 hown hK hP 0 rfl rfl 4 (by decide) w3 (fun _ h9 => h9) rfl dX10_saveSnapshot_26 ?_
    refine lv_sipush (v := 202) hx hb dX10_saveSnapshot_29 (by decide) ?_
    refine lv_iload_n hx hb dX10_saveSnapshot_32 rfl (lv_at hl 1 rfl) ?_
    refine lv_imul hx hb dX10_saveSnapshot_33 ?_
    refine endI (r := nI (202 * q)) (pk_mul _ _) ?_
    refine wrSv (As := [.ref (b 1), .int (0), .ref (b 5), .int (nI (202 * q))]) (rest := []) ⟨hx, hb, hml, hown, hts⟩ (c_X10_layRow l D T (b 1) 202 (y 1) (b 5) 404 (y 5) 0 (202 * q) (by first | omega | assumption | decide) (by first | omega | assumption | decide) (by first | omega | assumption | decide) (by first | omega | assumption | decide) _) (va_cwS 4 hts gX10_saveSnapshot_X10_layRow rfl rfl rfl (by decide +kernel) ⟨Nat.le_of_ble_eq_true rfl, Nat.le_of_ble_eq_true rfl⟩) (show Foc (REF T b (yS y 3 0) w) _ (REF T b (yS (va_up y 5 (rLay (y 1) 0 (202 * q) (y 5))) 3 0) w) _ from Foc.two 5 1 rfl rfl) hK hP hD hS hA rfl hl.1 rfl (Nat.le_of_ble_eq_true rfl) ⟨Nat.zero_le _, Nat.zero_le _⟩ dX10_saveSnapshot_34 (fun H locs hP hD hS => ?_)
    have hP : va_P D vwCl (REF T b (yS (va_up y 5 (rLay (y 1) 0 (202 * q) (y 5))) 3 0) w) H := hP
    have hD : va_D A (REF T b (yS (va_up y 5 (rLay (y 1) 0 (202 * q) (y 5))) 3 0) w) := hD
    refine lv_aload_n hx hb dX10_saveSnapshot_37 rfl (lv_at hl 0 rfl) ?_
    refine va_get (D := D) (ci := 10) (v := .ref (b 6)) (C := RX10) (T := TX10) (N := 19) hx hb hts i10 hown hK hP 0 rfl rfl 5 (by decide) w4 (fun _ h9 => h9) rfl dX10_saveSnapshot_38 ?_
    refine lv_iload_n hx hb dX10_saveSnapshot_41 rfl (lv_at hl 1 rfl) ?_
    refine lv_iconst (v := 1) hx hb dX10_saveSnapshot_42 (by decide) ?_
    refine astZ hx hb hK hP hD hS 6 1 rfl rfl (q) rfl rfl (by omega) (by decide) dX10_saveSnapshot_43 (fun H locs hP hD hS => ?_)
    have hP : va_P D vwCl (REF T b (yS (va_up (va_up y 5 (rLay (y 1) 0 (202 * q) (y 5))) 6 (va_up (y 6) q 1)) 3 0) w) H := hP
    have hD : va_D A (REF T b (yS (va_up (va_up y 5 (rLay (y 1) 0 (202 * q) (y 5))) 6 (va_up (y 6) q 1)) 3 0) w) := hD
    refine lv_aload_n hx hb dX10_saveSnapshot_44 rfl (lv_at hl 0 rfl) ?_
    refine va_get (D := D) (ci := 10) (v := .ref (b 1)) (C := RX10) (T := TX10) (N := 19) hx hb hts i10 hown hK hP 0 rfl rfl 0 (by decide) w2 (fun _ h9 => h9) rfl dX10_saveSnapshot_45 ?_
    refine lv_iconst (v := 0) hx hb dX10_saveSnapshot_48 (by decide) ?_
    refine aldI hx hb hK hP 1 0 rfl rfl (0) rfl (by omega) (by decide) dX10_saveSnapshot_49 ?_
    refine endI (r := if rg z 0 1 then y 1 0 else 0) (by first | (simp [c11]; done) | (rw [if_pos c11]; rfl)) ?_
    have hE : (yS (va_up (va_up y 5 (rLay (y 1) 0 (202 * q) (y 5))) 6 (va_up (y 6) q 1)) 3 0) = (if rg z 0 1 then yS (va_up (va_up y 5 (rLay (y 1) 0 (202 * z.toNatClampNeg) (y 5))) 6 (va_up (y 6) z.toNatClampNeg 1)) 3 0 else yS y 3 1) := by first | (simp [yS_same, c11]; done) | (rw [if_pos c11, hqc])
    exact hret _ _ _ _ dX10_saveSnapshot_50 (by rw [← hE]; exact hP) (by rw [← hE]; exact hD) hS
  ·
    have c11 := bI_0.mp c11
    refine lv_aload_n hx hb dX10_saveSnapshot_14 rfl (lv_at hl 0 rfl) ?_
    refine lv_iconst (v := 1) hx hb dX10_saveSnapshot_15 (by decide) ?_
    refine wrVi (As := [.int (1)]) (rest := []) ⟨hx, hb, hml, hown, hts⟩ (c_X10_fails l D T b (yS y 3 0) w 1 _) (cwV 1 hts gX10_saveSnapshot_X10_fails rfl rfl rfl (by decide +kernel) ⟨Nat.le_of_ble_eq_true rfl, Nat.le_of_ble_eq_true rfl⟩) (Foc.rfl _ _) hK hP hD hS hA 0 rfl rfl rfl hl.1 rfl (Nat.le_of_ble_eq_true rfl) ⟨Nat.zero_le _, Nat.zero_le _⟩ dX10_saveSnapshot_16 (fun H locs hP hD hS => ?_)
    have hP : va_P D vwCl (REF T b (yS (yS y 3 0) 3 1) w) H := hP
    have hD : va_D A (REF T b (yS (yS y 3 0) 3 1) w) := hD
    refine endI (r := if rg z 0 1 then y 1 0 else 0) (by first | (simp [c11]; done) | (rw [if_pos c11]; rfl)) ?_
    have hE : (yS (yS y 3 0) 3 1) = (if rg z 0 1 then yS (va_up (va_up y 5 (rLay (y 1) 0 (202 * z.toNatClampNeg) (y 5))) 6 (va_up (y 6) z.toNatClampNeg 1)) 3 0 else yS y 3 1) := by first | (simp [yS_same, c11]; done) | (rw [if_pos c11, hqc])
    exact hret _ _ _ _ dX10_saveSnapshot_19 (by rw [← hE]; exact hP) (by rw [← hE]; exact hD) hS

set_option maxHeartbeats 4000000 in
set_option maxRecDepth 100000 in
theorem c_X10_restoreSnapshot (l : Launch) (D : va_G) (T : Nat → ClassId) (b : Nat → Nat) (y : Nat → Nat → Int32) (w : Int64) (z : Int32) (u : Nat) (hu : y 0 0 = nI u) (hu8 : u ≤ 8) (sz : Nat) : Met l yX10_restoreSnapshot wsX10_restoreSnapshot ({ frames := 2, cells := 0, slots := 0, locals := 45 } : Room) (va_Pc [.ref (b 0), .int (z)] (PS D T (REF T b y w) sz)) (va_Qi (fun r9 (_ : Unit) => r9 = (if rg z 0 1 then (if y 6 z.toNatClampNeg = 0 then 0 else rLay (y 5) (202 * z.toNatClampNeg) 0 (y 1) 0) else 0)) (fun _ t => QS D T (va_A (REF T b y w) sz) (REF T b (if rg z 0 1 then (if y 6 z.toNatClampNeg = 0 then yS y 3 2 else va_up (rKeep (yS y 3 0)) 1 (rLay (y 5) (202 * z.toNatClampNeg) 0 (y 1))) else yS y 3 1) w) t) (va_A (REF T b y w) sz)) 0 0 (va_A (REF T b y w) sz) := by
  refine metSi (cc := cX10_restoreSnapshot) (maxL := 2) (ty := .int) (by decide) rfl (by rfl) (Nat.le_of_ble_eq_true rfl) ?_
  intro p e s m args below meth c Q ls A hx hb hml hown hts hP hK hD hA hS hl hret
  have hown : s.vm.findClass RX10 = some m.cls := hown
  have hl : lv_has ls 2 [(0, .ref (b 0)), (1, .int (z))] := hl
  have i10 : ∀ w ∈ wsX100, w ∈ wsX10_restoreSnapshot := by decide +kernel
  have w1 := hts (Cond.fieldLink RX10 51 "MoonComplaintWindowModel" "thrown" "I") (List.mem_of_getElem? (i := 1) rfl)
  have w2 := hts (Cond.fieldLink RX10 25 "MoonComplaintWindowModel" "isKept" "[Z") (List.mem_of_getElem? (i := 2) rfl)
  have w3 := hts (Cond.fieldLink RX10 22 "MoonComplaintWindowModel" "slots" "[I") (List.mem_of_getElem? (i := 3) rfl)
  have w4 := hts (Cond.fieldLink RX10 7 "MoonComplaintWindowModel" "now" "[I") (List.mem_of_getElem? (i := 4) rfl)
  refine lv_aload_n hx hb dX10_restoreSnapshot_0 rfl (lv_at hl 0 rfl) ?_
  refine lv_iconst (v := 0) hx hb dX10_restoreSnapshot_1 (by decide) ?_
  refine va_put (D := D) (ci := 10) (v := .int (0)) (ty := .int) (C := RX10) (T := TX10) (N := 19) hx hb hts i10 tyX10 tyX10_ok nmX10 hown hK hP hD hS 0 rfl rfl 10 (by decide) w1 (fun _ h9 => h9) rfl (by decide +kernel) rfl rfl (Nat.le_of_ble_eq_true rfl) dX10_restoreSnapshot_2 (fun H locs hP hD hS => ?_)
  have hP : va_P D vwCl (REF T b (yS y 3 0) w) H := hP
  have hD : va_D A (REF T b (yS y 3 0) w) := hD
  refine lv_iload_n hx hb dX10_restoreSnapshot_5 rfl (lv_at hl 1 rfl) ?_
  refine lv_iconst (v := 0) hx hb dX10_restoreSnapshot_6 (by decide) ?_
  refine lv_iconst (v := 1) hx hb dX10_restoreSnapshot_7 (by decide) ?_
  refine rdT (As := [.int (z), .int (0), .int (1)]) (rest := []) ⟨hx, hb, hml, hown, hts⟩ (c_X10_in l D T z 0 1 ) (va_cwS 3 hts gX10_restoreSnapshot_X10_in rfl rfl rfl (by decide +kernel) ⟨Nat.le_of_ble_eq_true rfl, Nat.le_of_ble_eq_true rfl⟩) rfl hl.1 rfl (Nat.le_of_ble_eq_true rfl) ⟨Nat.zero_le _, Nat.zero_le _⟩ dX10_restoreSnapshot_8 ?_
  refine lv_if_ne (tgt := 20) hx hb dX10_restoreSnapshot_11 (by decide) (fun c11 => ?_) (fun c11 => ?_)
  ·
    have c11 := bI_n0.mp c11
    obtain ⟨q, hq, hqz, hqc⟩ := rg_nat (n := 1) (by decide) c11
    rw [hqz] at hl
    have hl : lv_has ls 2 [(0, .ref (b 0)), (1, .int (nI q))] := hl
    refine lv_aload_n hx hb dX10_restoreSnapshot_20 rfl (lv_at hl 0 rfl) ?_
    refine va_get (D := D) (ci := 10) (v := .ref (b 6)) (C := RX10) (T := TX10) (N := 19) hx hb hts i10 hown hK hP 0 rfl rfl 5 (by decide) w2 (fun _ h9 => h9) rfl dX10_restoreSnapshot_21 ?_
    refine lv_iload_n hx hb dX10_restoreSnapshot_24 rfl (lv_at hl 1 rfl) ?_
    refine aldZ hx hb hK hP 6 1 rfl rfl (q) rfl (by omega) (by decide) dX10_restoreSnapshot_25 ?_
    refine lv_if_ne (tgt := 35) hx hb dX10_restoreSnapshot_26 (by decide) (fun c26 => ?_) (fun c26 => ?_)
    ·
      have c26 : ¬ y 6 q = 0 := c26
      refine lv_aload_n hx hb dX10_restoreSnapshot_35 rfl (lv_at hl 0 rfl) ?_
      refine wrVv (As := []) (rest := []) ⟨hx, hb, hml, hown, hts⟩ (c_X10_keepsForUndo l D T b (yS y 3 0) w u hu hu8 _) (cwV 0 hts gX10_restoreSnapshot_X10_keepsForUndo rfl rfl rfl (by decide +kernel) ⟨Nat.le_of_ble_eq_true rfl, Nat.le_of_ble_eq_true rfl⟩) (Foc.rfl _ _) hK hP hD hS hA 0 rfl rfl rfl hl.1 rfl (Nat.le_of_ble_eq_true rfl) ⟨Nat.zero_le _, Nat.zero_le _⟩ dX10_restoreSnapshot_36 (fun H locs hP hD hS => ?_)
      have hP : va_P D vwCl (REF T b (rKeep (yS y 3 0)) w) H := hP
      have hD : va_D A (REF T b (rKeep (yS y 3 0)) w) := hD
      refine lv_aload_n hx hb dX10_restoreSnapshot_39 rfl (lv_at hl 0 rfl) ?_
      refine va_get (D := D) (ci := 10) (v := .ref (b 5)) (C := RX10) (T := TX10) (N := 19) hx hb hts i10 hown hK hP 0 rfl rfl 4 (by decide) w3 (fun _ h9 => h9) rfl dX10_restoreSnapshot_40 ?_
      refine lv_sipush (v := 202) hx hb dX10_restoreSnapshot_43 (by decide) ?_
      refine lv_iload_n hx hb dX10_restoreSnapshot_46 rfl (lv_at hl 1 rfl) ?_
      refine lv_imul hx hb dX10_restoreSnapshot_47 ?_
      refine endI (r := nI (202 * q)) (pk_mul _ _) ?_
      refine lv_aload_n hx hb dX10_restoreSnapshot_48 rfl (lv_at hl 0 rfl) ?_
      refine va_get (D := D) (ci := 10) (v := .ref (b 1)) (C := RX10) (T := TX10) (N := 19) hx hb hts i10 hown hK hP 0 rfl rfl 0 (by decide) w4 (fun _ h9 => h9) rfl dX10_restoreSnapshot_49 ?_
      refine lv_iconst (v := 0) hx hb dX10_restoreSnapshot_52 (by decide) ?_
      refine wrSv (As := [.ref (b 5), .int (nI (202 * q)), .ref (b 1), .int (0)]) (rest := []) ⟨hx, hb, hml, hown, hts⟩ (c_X10_layRow l D T (b 5) 404 ((rKeep (yS y 3 0)) 5) (b 1) 202 ((rKeep (yS y 3 0)) 1) (202 * q) 0 (by first | omega | assumption | decide) (by first | omega | assumption | decide) (by first | omega | assumption | decide) (by first | omega | assumption | decide) _) (va_cwS 4 hts gX10_restoreSnapshot_X10_layRow rfl rfl rfl (by decide +kernel) ⟨Nat.le_of_ble_eq_true rfl, Nat.le_of_ble_eq_true rfl⟩) (show Foc (REF T b (rKeep (yS y 3 0)) w) _ (REF T b (va_up (rKeep (yS y 3 0)) 1 (rLay ((rKeep (yS y 3 0)) 5) (202 * q) 0 ((rKeep (yS y 3 0)) 1))) w) _ from Foc.two 1 4 rfl rfl) hK hP hD hS hA rfl hl.1 rfl (Nat.le_of_ble_eq_true rfl) ⟨Nat.zero_le _, Nat.zero_le _⟩ dX10_restoreSnapshot_53 (fun H locs hP hD hS => ?_)
      have hP : va_P D vwCl (REF T b (va_up (rKeep (yS y 3 0)) 1 (rLay ((rKeep (yS y 3 0)) 5) (202 * q) 0 ((rKeep (yS y 3 0)) 1))) w) H := hP
      have hD : va_D A (REF T b (va_up (rKeep (yS y 3 0)) 1 (rLay ((rKeep (yS y 3 0)) 5) (202 * q) 0 ((rKeep (yS y 3 0)) 1))) w) := hD
      refine lv_aload_n hx hb dX10_restoreSnapshot_56 rfl (lv_at hl 0 rfl) ?_
      refine va_get (D := D) (ci := 10) (v := .ref (b 1)) (C := RX10) (T := TX10) (N := 19) hx hb hts i10 hown hK hP 0 rfl rfl 0 (by decide) w4 (fun _ h9 => h9) rfl dX10_restoreSnapshot_57 ?_
      refine lv_iconst (v := 0) hx hb dX10_restoreSnapshot_60 (by decide) ?_
      refine aldI hx hb hK hP 1 0 rfl rfl (0) rfl (by omega) (by decide) dX10_restoreSnapshot_61 ?_
      refine endI (r := if rg z 0 1 then (if y 6 z.toNatClampNeg = 0 then 0 else rLay (y 5) (202 * z.toNatClampNeg) 0 (y 1) 0) else 0) (by first | (simp [c11, c26]; done) | (simp [c11, c26, hqc]; done) | (rw [if_pos c11, hqc, if_neg c26]; rfl)) ?_
      have hE : (va_up (rKeep (yS y 3 0)) 1 (rLay ((rKeep (yS y 3 0)) 5) (202 * q) 0 ((rKeep (yS y 3 0)) 1))) = (if rg z 0 1 then (if y 6 z.toNatClampNeg = 0 then yS y 3 2 else va_up (rKeep (yS y 3 0)) 1 (rLay (y 5) (202 * z.toNatClampNeg) 0 (y 1))) else yS y 3 1) := by first | (simp [yS_same, c11, c26]; done) | (simp [yS_same, c11, c26, hqc]; done) | (rw [if_pos c11, hqc, if_neg c26]; rfl)
      exact hret _ _ _ _ dX10_restoreSnapshot_62 (by rw [← hE]; exact hP) (by rw [← hE]; exact hD) hS
    ·
      have c26 : y 6 q = 0 := c26
      refine lv_aload_n hx hb dX10_restoreSnapshot_29 rfl (lv_at hl 0 rfl) ?_
      refine lv_iconst (v := 2) hx hb dX10_restoreSnapshot_30 (by decide) ?_
      refine wrVi (As := [.int (2)]) (rest := []) ⟨hx, hb, hml, hown, hts⟩ (c_X10_fails l D T b (yS y 3 0) w 2 _) (cwV 1 hts gX10_restoreSnapshot_X10_fails rfl rfl rfl (by decide +kernel) ⟨Nat.le_of_ble_eq_true rfl, Nat.le_of_ble_eq_true rfl⟩) (Foc.rfl _ _) hK hP hD hS hA 0 rfl rfl rfl hl.1 rfl (Nat.le_of_ble_eq_true rfl) ⟨Nat.zero_le _, Nat.zero_le _⟩ dX10_restoreSnapshot_31 (fun H locs hP hD hS => ?_)
      have hP : va_P D vwCl (REF T b (yS (yS y 3 0) 3 2) w) H := hP
      have hD : va_D A (REF T b (yS (yS y 3 0) 3 2) w) := hD
      refine endI (r := if rg z 0 1 then (if y 6 z.toNatClampNeg = 0 then 0 else rLay (y 5) (202 * z.toNatClampNeg) 0 (y 1) 0) else 0) (by first | (simp [c11, c26]; done) | (simp [c11, c26, hqc]; done) | (rw [if_pos c11, hqc, if_neg c26]; rfl)) ?_
      have hE : (yS (yS y 3 0) 3 2) = (if rg z 0 1 then (if y 6 z.toNatClampNeg = 0 then yS y 3 2 else va_up (rKeep (yS y 3 0)) 1 (rLay (y 5) (202 * z.toNatClampNeg) 0 (y 1))) else yS y 3 1) := by first | (simp [yS_same, c11, c26]; done) | (simp [yS_same, c11, c26, hqc]; done) | (rw [if_pos c11, hqc, if_neg c26]; rfl)
      exact hret _ _ _ _ dX10_restoreSnapshot_34 (by rw [← hE]; exact hP) (by rw [← hE]; exact hD) hS
  ·
    have c11 := bI_0.mp c11
    refine lv_aload_n hx hb dX10_restoreSnapshot_14 rfl (lv_at hl 0 rfl) ?_
    refine lv_iconst (v := 1) hx hb dX10_restoreSnapshot_15 (by decide) ?_
    refine wrVi (As := [.int (1)]) (rest := []) ⟨hx, hb, hml, hown, hts⟩ (c_X10_fails l D T b (yS y 3 0) w 1 _) (cwV 1 hts gX10_restoreSnapshot_X10_fails rfl rfl rfl (by decide +kernel) ⟨Nat.le_of_ble_eq_true rfl, Nat.le_of_ble_eq_true rfl⟩) (Foc.rfl _ _) hK hP hD hS hA 0 rfl rfl rfl hl.1 rfl (Nat.le_of_ble_eq_true rfl) ⟨Nat.zero_le _, Nat.zero_le _⟩ dX10_restoreSnapshot_16 (fun H locs hP hD hS => ?_)
    have hP : va_P D vwCl (REF T b (yS (yS y 3 0) 3 1) w) H := hP
    have hD : va_D A (REF T b (yS (yS y 3 0) 3 1) w) := hD
    refine endI (r := if rg z 0 1 then (if y 6 z.toNatClampNeg = 0 then 0 else rLay (y 5) (202 * z.toNatClampNeg) 0 (y 1) 0) else 0) (by first | (simp [c11]; done) | (simp [c11, hqc]; done) | (rw [if_pos c11, hqc, if_neg c26]; rfl)) ?_
    have hE : (yS (yS y 3 0) 3 1) = (if rg z 0 1 then (if y 6 z.toNatClampNeg = 0 then yS y 3 2 else va_up (rKeep (yS y 3 0)) 1 (rLay (y 5) (202 * z.toNatClampNeg) 0 (y 1))) else yS y 3 1) := by first | (simp [yS_same, c11]; done) | (simp [yS_same, c11, hqc]; done) | (rw [if_pos c11, hqc, if_neg c26]; rfl)
    exact hret _ _ _ _ dX10_restoreSnapshot_19 (by rw [← hE]; exact hP) (by rw [← hE]; exact hD) hS

set_option maxHeartbeats 4000000 in
set_option maxRecDepth 100000 in
theorem c_X10_answersTonight (l : Launch) (D : va_G) (T : Nat → ClassId) (b : Nat → Nat) (y : Nat → Nat → Int32) (w : Int64) (N : Nat) (K : Nat) (C : Nat) (nt : Nat) (hRI : RI (y 1) N K C nt) (sz : Nat) : Met l yX10_answersTonight wsX10_answersTonight ({ frames := 8, cells := 0, slots := 0, locals := 173 } : Room) (va_Pc [.ref (b 0)] (PS D T (REF T b y w) sz)) (va_Qi (fun r9 (_ : Unit) => r9 = (cntR (rEnds N K C nt (lay0 y)) 1 N - cntR (lay0 y) 1 N)) (fun _ t => QS D T (va_A (REF T b y w) sz) (REF T b (yS (va_up y 3 (rEnds N K C nt (lay0 y))) 3 0) w) t) (va_A (REF T b y w) sz)) 0 0 (va_A (REF T b y w) sz) := by
  refine metSi (cc := cX10_answersTonight) (maxL := 1) (ty := .int) (by decide) rfl (by rfl) (Nat.le_of_ble_eq_true rfl) ?_
  intro p e s m args below meth c Q ls A hx hb hml hown hts hP hK hD hA hS hl hret
  have hown : s.vm.findClass RX10 = some m.cls := hown
  have hl : lv_has ls 1 [(0, .ref (b 0))] := hl
  have i10 : ∀ w ∈ wsX100, w ∈ wsX10_answersTonight := by decide +kernel
  have w1 := hts (Cond.fieldLink RX10 51 "MoonComplaintWindowModel" "thrown" "I") (List.mem_of_getElem? (i := 1) rfl)
  have w2 := hts (Cond.fieldLink RX10 16 "MoonComplaintWindowModel" "spare" "[I") (List.mem_of_getElem? (i := 2) rfl)
  obtain ⟨hN, hN2, hKn, hK2, hC, hC1, hC2, hn, hnt, hSo, hSK⟩ := id hRI
  have hr1 := hRI.lay
  obtain ⟨gN, gN2, gKn, gK2, gC, gC1, gC2, gn, gnt, gSo, gSK⟩ := id hr1
  refine lv_aload_n hx hb dX10_answersTonight_0 rfl (lv_at hl 0 rfl) ?_
  refine lv_iconst (v := 0) hx hb dX10_answersTonight_1 (by decide) ?_
  refine va_put (D := D) (ci := 10) (v := .int (0)) (ty := .int) (C := RX10) (T := TX10) (N := 19) hx hb hts i10 tyX10 tyX10_ok nmX10 hown hK hP hD hS 0 rfl rfl 10 (by decide) w1 (fun _ h9 => h9) rfl (by decide +kernel) rfl rfl (Nat.le_of_ble_eq_true rfl) dX10_answersTonight_2 (fun H locs hP hD hS => ?_)
  have hP : va_P D vwCl (REF T b (yS y 3 0) w) H := hP
  have hD : va_D A (REF T b (yS y 3 0) w) := hD
  refine lv_aload_n hx hb dX10_answersTonight_5 rfl (lv_at hl 0 rfl) ?_
  refine wrVv (As := []) (rest := []) ⟨hx, hb, hml, hown, hts⟩ (c_X10_takesSpare l D T b (yS y 3 0) w _) (cwV 0 hts gX10_answersTonight_X10_takesSpare rfl rfl rfl (by decide +kernel) ⟨Nat.le_of_ble_eq_true rfl, Nat.le_of_ble_eq_true rfl⟩) (Foc.rfl _ _) hK hP hD hS hA 0 rfl rfl rfl hl.1 rfl (Nat.le_of_ble_eq_true rfl) ⟨Nat.zero_le _, Nat.zero_le _⟩ dX10_answersTonight_6 (fun H locs hP hD hS => ?_)
  have hP : va_P D vwCl (REF T b (va_up (yS y 3 0) 3 (rLay ((yS y 3 0) 1) 0 0 ((yS y 3 0) 3))) w) H := hP
  have hD : va_D A (REF T b (va_up (yS y 3 0) 3 (rLay ((yS y 3 0) 1) 0 0 ((yS y 3 0) 3))) w) := hD
  refine lv_aload_n hx hb dX10_answersTonight_9 rfl (lv_at hl 0 rfl) ?_
  refine va_get (D := D) (ci := 10) (v := .ref (b 3)) (C := RX10) (T := TX10) (N := 19) hx hb hts i10 hown hK hP 0 rfl rfl 2 (by decide) w2 (fun _ h9 => h9) rfl dX10_answersTonight_10 ?_
  refine wrSi (As := [.ref (b 3)]) (rest := []) ⟨hx, hb, hml, hown, hts⟩ (c_X10_ends l D T (b 3) ((va_up (yS y 3 0) 3 (rLay ((yS y 3 0) 1) 0 0 ((yS y 3 0) 3))) 3) N C nt K gN gN2 gC gC1 gC2 gn (by omega) gSo gKn gK2 gSK _) (va_cwS 1 hts gX10_answersTonight_X10_ends rfl rfl rfl (by decide +kernel) ⟨Nat.le_of_ble_eq_true rfl, Nat.le_of_ble_eq_true rfl⟩) (show Foc (REF T b (va_up (yS y 3 0) 3 (rLay ((yS y 3 0) 1) 0 0 ((yS y 3 0) 3))) w) _ (REF T b (va_up (va_up (yS y 3 0) 3 (rLay ((yS y 3 0) 1) 0 0 ((yS y 3 0) 3))) 3 (rEnds N K C nt ((va_up (yS y 3 0) 3 (rLay ((yS y 3 0) 1) 0 0 ((yS y 3 0) 3))) 3))) w) _ from Foc.one 3 rfl) hK hP hD hS hA rfl hl.1 rfl (Nat.le_of_ble_eq_true rfl) ⟨Nat.zero_le _, Nat.zero_le _⟩ dX10_answersTonight_13 (fun H locs hP hD hS => ?_)
  have hP : va_P D vwCl (REF T b (va_up (va_up (yS y 3 0) 3 (rLay ((yS y 3 0) 1) 0 0 ((yS y 3 0) 3))) 3 (rEnds N K C nt ((va_up (yS y 3 0) 3 (rLay ((yS y 3 0) 1) 0 0 ((yS y 3 0) 3))) 3))) w) H := hP
  have hD : va_D A (REF T b (va_up (va_up (yS y 3 0) 3 (rLay ((yS y 3 0) 1) 0 0 ((yS y 3 0) 3))) 3 (rEnds N K C nt ((va_up (yS y 3 0) 3 (rLay ((yS y 3 0) 1) 0 0 ((yS y 3 0) 3))) 3))) w) := hD
  refine endI (r := cntR (rEnds N K C nt (lay0 y)) 1 N - cntR (lay0 y) 1 N) (by rfl) ?_
  have hE : (va_up (va_up (yS y 3 0) 3 (rLay ((yS y 3 0) 1) 0 0 ((yS y 3 0) 3))) 3 (rEnds N K C nt ((va_up (yS y 3 0) 3 (rLay ((yS y 3 0) 1) 0 0 ((yS y 3 0) 3))) 3))) = (yS (va_up y 3 (rEnds N K C nt (lay0 y))) 3 0) := by exact va_up_rr _ _
  exact hret _ _ _ _ dX10_answersTonight_16 (by rw [← hE]; exact hP) (by rw [← hE]; exact hD) hS
