set_option maxHeartbeats 4000000 in
set_option maxRecDepth 100000 in
theorem k6_clef (l : Launch) (D : va_G) (b : Nat → Nat) (cA : ClassId) (u : Nat → Int32) (n m : Nat) (a : Nat → Nat → Int32) (sz : Nat) (p1 p2 p3 : Int32) : Met l yX6_clef wsX6_clef ({ frames := 2, cells := 0, slots := 0, locals := 42 }) (wPc D (mW b cA u n m a) [(cA, .int)] sz [.ref (b 0), .int p1, .int p2, .int p3]) (va_Qi (fun (r : Int32) (x : mS) => (r, x) = mutClef p1 p2 p3 (va_up u 0 0, n, m, a) (va_up u 0 0, n, m, rClefA a p1.toNatClampNeg p2 p3)) (wB D (mW b cA u n m a) sz (mX b cA)) (va_A (mW b cA u n m a) sz)) 0 0 (va_A (mW b cA u n m a) sz) := by
  refine w_head (C := RX6) (cc := cX6_clef) (maxL := 4) (ret := (some .int)) [(0, .ref (b 0)), (1, .int p1), (2, .int p2), (3, .int p3)] (by decide) rfl rfl (Nat.le_of_ble_eq_true rfl) rfl ?_
  intro p e s mi below meth c hx hb hr hlk hml hown hin hts hP hD hS hA hK ls hl
  have hiX60 : ∀ w ∈ wsX60, w ∈ wsX6_clef := fun w h => List.mem_cons_of_mem _ (List.mem_append_right _ h)
  have f0 := hts (.fieldLink RX6 69 "StaffHeadsModel" "thrown" "I") (List.mem_of_getElem? (i := 1) rfl)
  have f1 := hts (.fieldLink RX6 7 "StaffHeadsModel" "clefKind" "[I") (List.mem_of_getElem? (i := 2) rfl)
  have f2 := hts (.fieldLink RX6 13 "StaffHeadsModel" "clefLine" "[I") (List.mem_of_getElem? (i := 3) rfl)
  refine lv_aload_n hx hb dX6_clef_0 rfl (lv_at hl 0 rfl) ?_
  refine lv_iconst (v := 0) hx hb dX6_clef_1 (by decide) ?_
  refine va_put (D := D) (ci := 6) (v := .int 0) (ty := .int) (C := RX6) (T := TX6) (N := 23) hx hb hts hiX60 tyX6 tyX6_ok nmX6 hown hK.1 hP hD hS 0 rfl rfl 0 (by decide) f0 (fun _ h9 => h9) rfl (by decide +kernel) rfl rfl (Nat.le_of_ble_eq_true rfl) dX6_clef_2 (fun H locs hP hD hS => ?_)
  have hP : va_P D vwCl (mW b cA (va_up u 0 0) n m a) H := hP
  have hD : va_D (va_A (mW b cA u n m a) sz) (mW b cA (va_up u 0 0) n m a) := hD
  refine lv_iload_n hx hb dX6_clef_5 rfl (lv_at hl 1 rfl) ?_
  refine rcSi (As := [.int p1]) (rest := []) ⟨hx, hb, hml, hown, hts⟩ (k6_isStaff l p1) (va_cwS 1 hts gX6_clef_X6_isStaff rfl rfl rfl (by decide +kernel) ⟨Nat.le_of_ble_eq_true rfl, Nat.le_of_ble_eq_true rfl⟩) rfl hl.1 rfl (Nat.le_of_ble_eq_true rfl) dX6_clef_6 ⟨Nat.zero_le _, Nat.zero_le _⟩ ?_
  refine x_ifne (tgt := 16) hx hb dX6_clef_9 (by decide) (fun (c_9 : ¬ p1 < 0 ∧ ¬ 3 < p1) => ?_) (fun (c_9 : ¬ (¬ p1 < 0 ∧ ¬ 3 < p1)) => ?_)
  · have hj := okI_nat (N := 3) (by decide) c_9
    refine lv_iload_n hx hb dX6_clef_16 rfl (lv_at hl 2 rfl) ?_
    refine lv_iconst (v := 0) hx hb dX6_clef_17 (by decide) ?_
    refine lv_iconst (v := 2) hx hb dX6_clef_18 (by decide) ?_
    refine rcSi (As := [.int p2, .int 0, .int 2]) (rest := []) ⟨hx, hb, hml, hown, hts⟩ (k6_in l p2 0 2) (va_cwS 3 hts gX6_clef_X6_in rfl rfl rfl (by decide +kernel) ⟨Nat.le_of_ble_eq_true rfl, Nat.le_of_ble_eq_true rfl⟩) rfl hl.1 rfl (Nat.le_of_ble_eq_true rfl) dX6_clef_19 ⟨Nat.zero_le _, Nat.zero_le _⟩ ?_
    refine x_ifeq (tgt := 34) hx hb dX6_clef_22 (by decide) (fun (c_22 : ¬ (¬ p2 < 0 ∧ ¬ 2 < p2)) => ?_) (fun (c_22 : ¬ p2 < 0 ∧ ¬ 2 < p2) => ?_)
    · refine lv_sipush (v := (-1002)) hx hb dX6_clef_34 (by decide) ?_
      exact w_iret (S0 := mS) (w1 := mX b cA) (va_up u 0 0, n, m, a) hx hb hr hlk hP hD hS (by rw [mutClef, if_pos c_9, if_neg (fun h => c_22 h.1)] <;> rfl) dX6_clef_37
    · refine lv_iload_n hx hb dX6_clef_25 rfl (lv_at hl 3 rfl) ?_
      refine lv_iconst (v := 1) hx hb dX6_clef_26 (by decide) ?_
      refine lv_iconst (v := 5) hx hb dX6_clef_27 (by decide) ?_
      refine rcSi (As := [.int p3, .int 1, .int 5]) (rest := []) ⟨hx, hb, hml, hown, hts⟩ (k6_in l p3 1 5) (va_cwS 3 hts gX6_clef_X6_in rfl rfl rfl (by decide +kernel) ⟨Nat.le_of_ble_eq_true rfl, Nat.le_of_ble_eq_true rfl⟩) rfl hl.1 rfl (Nat.le_of_ble_eq_true rfl) dX6_clef_28 ⟨Nat.zero_le _, Nat.zero_le _⟩ ?_
      refine x_ifne (tgt := 38) hx hb dX6_clef_31 (by decide) (fun (c_31 : ¬ p3 < 1 ∧ ¬ 5 < p3) => ?_) (fun (c_31 : ¬ (¬ p3 < 1 ∧ ¬ 5 < p3)) => ?_)
      · refine lv_aload_n hx hb dX6_clef_38 rfl (lv_at hl 0 rfl) ?_
        refine va_get (D := D) (ci := 6) (v := .ref (b 1)) (C := RX6) (T := TX6) (N := 23) hx hb hts hiX60 hown hK.1 hP 0 rfl rfl 2 (by decide) f1 (fun _ h9 => h9) rfl dX6_clef_39 ?_
        refine lv_iload_n hx hb dX6_clef_42 rfl (lv_at hl 1 rfl) ?_
        refine x_tp (y := nI p1.toNatClampNeg) hj.1 ?_
        refine lv_iload_n hx hb dX6_clef_43 rfl (lv_at hl 2 rfl) ?_
        refine x_iast hx hb hK hP hD hS 1 0 rfl rfl (k := p1.toNatClampNeg) (by omega) (by decide) dX6_clef_44 (fun H locs hP hD hS => ?_)
        have hP : va_P D vwCl (mW b cA (va_up u 0 0) n m (va_up a 1 (upd (a 1) p1.toNatClampNeg p2))) H := hP
        have hD : va_D (va_A (mW b cA u n m a) sz) (mW b cA (va_up u 0 0) n m (va_up a 1 (upd (a 1) p1.toNatClampNeg p2))) := hD
        refine lv_aload_n hx hb dX6_clef_45 rfl (lv_at hl 0 rfl) ?_
        refine va_get (D := D) (ci := 6) (v := .ref (b 2)) (C := RX6) (T := TX6) (N := 23) hx hb hts hiX60 hown hK.1 hP 0 rfl rfl 3 (by decide) f2 (fun _ h9 => h9) rfl dX6_clef_46 ?_
        refine lv_iload_n hx hb dX6_clef_49 rfl (lv_at hl 1 rfl) ?_
        refine x_tp (y := nI p1.toNatClampNeg) hj.1 ?_
        refine lv_iload_n hx hb dX6_clef_50 rfl (lv_at hl 3 rfl) ?_
        refine x_iast hx hb hK hP hD hS 2 0 rfl rfl (k := p1.toNatClampNeg) (by omega) (by decide) dX6_clef_51 (fun H locs hP hD hS => ?_)
        have hP : va_P D vwCl (mW b cA (va_up u 0 0) n m (va_up (va_up a 1 (upd (a 1) p1.toNatClampNeg p2)) 2 (upd (a 2) p1.toNatClampNeg p3))) H := hP
        have hD : va_D (va_A (mW b cA u n m a) sz) (mW b cA (va_up u 0 0) n m (va_up (va_up a 1 (upd (a 1) p1.toNatClampNeg p2)) 2 (upd (a 2) p1.toNatClampNeg p3))) := hD
        refine lv_iconst (v := 1) hx hb dX6_clef_52 (by decide) ?_
        exact w_iret (S0 := mS) (w1 := mX b cA) (va_up u 0 0, n, m, va_up (va_up a 1 (upd (a 1) p1.toNatClampNeg p2)) 2 (upd (a 2) p1.toNatClampNeg p3)) hx hb hr hlk hP hD hS (by rw [mutClef, if_pos c_9, if_pos ⟨c_22, c_31⟩] <;> rfl) dX6_clef_53
      · refine lv_sipush (v := (-1002)) hx hb dX6_clef_34 (by decide) ?_
        exact w_iret (S0 := mS) (w1 := mX b cA) (va_up u 0 0, n, m, a) hx hb hr hlk hP hD hS (by rw [mutClef, if_pos c_9, if_neg (fun h => c_31 h.2)] <;> rfl) dX6_clef_37
  · refine lv_sipush (v := (-1001)) hx hb dX6_clef_12 (by decide) ?_
    exact w_iret (S0 := mS) (w1 := mX b cA) (va_up u 0 0, n, m, a) hx hb hr hlk hP hD hS (by rw [mutClef, if_neg c_9] <;> rfl) dX6_clef_15

set_option maxHeartbeats 4000000 in
set_option maxRecDepth 100000 in
theorem k6_shift (l : Launch) (D : va_G) (b : Nat → Nat) (cA : ClassId) (u : Nat → Int32) (n m : Nat) (a : Nat → Nat → Int32) (sz : Nat) (p1 p2 p3 p4 : Int32) (hm : m ≤ 12) : Met l yX6_shift wsX6_shift ({ frames := 2, cells := 0, slots := 0, locals := 42 }) (wPc D (mW b cA u n m a) [(cA, .int)] sz [.ref (b 0), .int p1, .int p2, .int p3, .int p4]) (va_Qi (fun (r : Int32) (x : mS) => (r, x) = mutShift m p1 p2 p3 p4 (va_up u 0 0, n, m, a) (va_up u 0 0, n, m + 1, rShiftA a m p1 p2 p3 p4)) (wB D (mW b cA u n m a) sz (mX b cA)) (va_A (mW b cA u n m a) sz)) 0 0 (va_A (mW b cA u n m a) sz) := by
  refine w_head (C := RX6) (cc := cX6_shift) (maxL := 5) (ret := (some .int)) [(0, .ref (b 0)), (1, .int p1), (2, .int p2), (3, .int p3), (4, .int p4)] (by decide) rfl rfl (Nat.le_of_ble_eq_true rfl) rfl ?_
  intro p e s mi below meth c hx hb hr hlk hml hown hin hts hP hD hS hA hK ls hl
  have hiX60 : ∀ w ∈ wsX60, w ∈ wsX6_shift := fun w h => List.mem_cons_of_mem _ (List.mem_append_right _ h)
  have f0 := hts (.fieldLink RX6 69 "StaffHeadsModel" "thrown" "I") (List.mem_of_getElem? (i := 1) rfl)
  have f1 := hts (.fieldLink RX6 83 "StaffHeadsModel" "shifts" "I") (List.mem_of_getElem? (i := 2) rfl)
  have f2 := hts (.fieldLink RX6 16 "StaffHeadsModel" "shiftStaff" "[I") (List.mem_of_getElem? (i := 3) rfl)
  have f3 := hts (.fieldLink RX6 19 "StaffHeadsModel" "shiftFrom" "[I") (List.mem_of_getElem? (i := 4) rfl)
  have f4 := hts (.fieldLink RX6 22 "StaffHeadsModel" "shiftTo" "[I") (List.mem_of_getElem? (i := 5) rfl)
  have f5 := hts (.fieldLink RX6 25 "StaffHeadsModel" "shiftBy" "[I") (List.mem_of_getElem? (i := 6) rfl)
  refine lv_aload_n hx hb dX6_shift_0 rfl (lv_at hl 0 rfl) ?_
  refine lv_iconst (v := 0) hx hb dX6_shift_1 (by decide) ?_
  refine va_put (D := D) (ci := 6) (v := .int 0) (ty := .int) (C := RX6) (T := TX6) (N := 23) hx hb hts hiX60 tyX6 tyX6_ok nmX6 hown hK.1 hP hD hS 0 rfl rfl 0 (by decide) f0 (fun _ h9 => h9) rfl (by decide +kernel) rfl rfl (Nat.le_of_ble_eq_true rfl) dX6_shift_2 (fun H locs hP hD hS => ?_)
  have hP : va_P D vwCl (mW b cA (va_up u 0 0) n m a) H := hP
  have hD : va_D (va_A (mW b cA u n m a) sz) (mW b cA (va_up u 0 0) n m a) := hD
  refine lv_iload_n hx hb dX6_shift_5 rfl (lv_at hl 1 rfl) ?_
  refine rcSi (As := [.int p1]) (rest := []) ⟨hx, hb, hml, hown, hts⟩ (k6_isStaff l p1) (va_cwS 1 hts gX6_shift_X6_isStaff rfl rfl rfl (by decide +kernel) ⟨Nat.le_of_ble_eq_true rfl, Nat.le_of_ble_eq_true rfl⟩) rfl hl.1 rfl (Nat.le_of_ble_eq_true rfl) dX6_shift_6 ⟨Nat.zero_le _, Nat.zero_le _⟩ ?_
  refine x_ifne (tgt := 16) hx hb dX6_shift_9 (by decide) (fun (c_9 : ¬ p1 < 0 ∧ ¬ 3 < p1) => ?_) (fun (c_9 : ¬ (¬ p1 < 0 ∧ ¬ 3 < p1)) => ?_)
  · refine lv_iload_n hx hb dX6_shift_16 rfl (lv_at hl 2 rfl) ?_
    refine lv_iconst (v := 0) hx hb dX6_shift_17 (by decide) ?_
    refine lv_bipush (v := 99) hx hb dX6_shift_18 (by decide) ?_
    refine rcSi (As := [.int p2, .int 0, .int 99]) (rest := []) ⟨hx, hb, hml, hown, hts⟩ (k6_in l p2 0 99) (va_cwS 3 hts gX6_shift_X6_in rfl rfl rfl (by decide +kernel) ⟨Nat.le_of_ble_eq_true rfl, Nat.le_of_ble_eq_true rfl⟩) rfl hl.1 rfl (Nat.le_of_ble_eq_true rfl) dX6_shift_20 ⟨Nat.zero_le _, Nat.zero_le _⟩ ?_
    refine x_ifeq (tgt := 47) hx hb dX6_shift_23 (by decide) (fun (c_23 : ¬ (¬ p2 < 0 ∧ ¬ 99 < p2)) => ?_) (fun (c_23 : ¬ p2 < 0 ∧ ¬ 99 < p2) => ?_)
    · refine lv_sipush (v := (-1002)) hx hb dX6_shift_47 (by decide) ?_
      exact w_iret (S0 := mS) (w1 := mX b cA) (va_up u 0 0, n, m, a) hx hb hr hlk hP hD hS (by rw [mutShift, if_pos c_9, if_neg (fun h => c_23 h.1)] <;> rfl) dX6_shift_50
    · refine lv_iload_n hx hb dX6_shift_26 rfl (lv_at hl 3 rfl) ?_
      refine lv_iload_n hx hb dX6_shift_27 rfl (lv_at hl 2 rfl) ?_
      refine lv_bipush (v := 99) hx hb dX6_shift_28 (by decide) ?_
      refine rcSi (As := [.int p3, .int p2, .int 99]) (rest := []) ⟨hx, hb, hml, hown, hts⟩ (k6_in l p3 p2 99) (va_cwS 3 hts gX6_shift_X6_in rfl rfl rfl (by decide +kernel) ⟨Nat.le_of_ble_eq_true rfl, Nat.le_of_ble_eq_true rfl⟩) rfl hl.1 rfl (Nat.le_of_ble_eq_true rfl) dX6_shift_30 ⟨Nat.zero_le _, Nat.zero_le _⟩ ?_
      refine x_ifeq (tgt := 47) hx hb dX6_shift_33 (by decide) (fun (c_33 : ¬ (¬ p3 < p2 ∧ ¬ 99 < p3)) => ?_) (fun (c_33 : ¬ p3 < p2 ∧ ¬ 99 < p3) => ?_)
      · refine lv_sipush (v := (-1002)) hx hb dX6_shift_47 (by decide) ?_
        exact w_iret (S0 := mS) (w1 := mX b cA) (va_up u 0 0, n, m, a) hx hb hr hlk hP hD hS (by rw [mutShift, if_pos c_9, if_neg (fun h => c_33 h.2.1)] <;> rfl) dX6_shift_50
      · refine lv_iload hx hb dX6_shift_36 (lv_at hl 4 rfl) ?_
        refine lv_bipush (v := (-2)) hx hb dX6_shift_38 (by decide) ?_
        refine lv_iconst (v := 2) hx hb dX6_shift_40 (by decide) ?_
        refine rcSi (As := [.int p4, .int (-2), .int 2]) (rest := []) ⟨hx, hb, hml, hown, hts⟩ (k6_in l p4 (-2) 2) (va_cwS 3 hts gX6_shift_X6_in rfl rfl rfl (by decide +kernel) ⟨Nat.le_of_ble_eq_true rfl, Nat.le_of_ble_eq_true rfl⟩) rfl hl.1 rfl (Nat.le_of_ble_eq_true rfl) dX6_shift_41 ⟨Nat.zero_le _, Nat.zero_le _⟩ ?_
        refine x_ifne (tgt := 51) hx hb dX6_shift_44 (by decide) (fun (c_44 : ¬ p4 < (-2) ∧ ¬ 2 < p4) => ?_) (fun (c_44 : ¬ (¬ p4 < (-2) ∧ ¬ 2 < p4)) => ?_)
        · refine lv_aload_n hx hb dX6_shift_51 rfl (lv_at hl 0 rfl) ?_
          refine va_get (D := D) (ci := 6) (v := .int (nI m)) (C := RX6) (T := TX6) (N := 23) hx hb hts hiX60 hown hK.1 hP 0 rfl rfl 4 (by decide) f1 (fun _ h9 => h9) rfl dX6_shift_52 ?_
          refine lv_bipush (v := 12) hx hb dX6_shift_55 (by decide) ?_
          refine x_tp (y := nI 12) (show (12 : Int32) = nI 12 from rfl) ?_
          refine x_nne (tgt := 64) hx hb dX6_shift_57 (by decide) (by omega) (by omega) (fun c_57 => ?_) (fun c_57 => ?_)
          · refine lv_aload_n hx hb dX6_shift_64 rfl (lv_at hl 0 rfl) ?_
            refine va_get (D := D) (ci := 6) (v := .ref (b 3)) (C := RX6) (T := TX6) (N := 23) hx hb hts hiX60 hown hK.1 hP 0 rfl rfl 5 (by decide) f2 (fun _ h9 => h9) rfl dX6_shift_65 ?_
            refine lv_aload_n hx hb dX6_shift_68 rfl (lv_at hl 0 rfl) ?_
            refine va_get (D := D) (ci := 6) (v := .int (nI m)) (C := RX6) (T := TX6) (N := 23) hx hb hts hiX60 hown hK.1 hP 0 rfl rfl 4 (by decide) f1 (fun _ h9 => h9) rfl dX6_shift_69 ?_
            refine lv_iload_n hx hb dX6_shift_72 rfl (lv_at hl 1 rfl) ?_
            refine x_iast hx hb hK hP hD hS 3 0 rfl rfl (k := m) (by omega) (by decide) dX6_shift_73 (fun H locs hP hD hS => ?_)
            have hP : va_P D vwCl (mW b cA (va_up u 0 0) n m (va_up a 3 (upd (a 3) m p1))) H := hP
            have hD : va_D (va_A (mW b cA u n m a) sz) (mW b cA (va_up u 0 0) n m (va_up a 3 (upd (a 3) m p1))) := hD
            refine lv_aload_n hx hb dX6_shift_74 rfl (lv_at hl 0 rfl) ?_
            refine va_get (D := D) (ci := 6) (v := .ref (b 4)) (C := RX6) (T := TX6) (N := 23) hx hb hts hiX60 hown hK.1 hP 0 rfl rfl 6 (by decide) f3 (fun _ h9 => h9) rfl dX6_shift_75 ?_
            refine lv_aload_n hx hb dX6_shift_78 rfl (lv_at hl 0 rfl) ?_
            refine va_get (D := D) (ci := 6) (v := .int (nI m)) (C := RX6) (T := TX6) (N := 23) hx hb hts hiX60 hown hK.1 hP 0 rfl rfl 4 (by decide) f1 (fun _ h9 => h9) rfl dX6_shift_79 ?_
            refine lv_iload_n hx hb dX6_shift_82 rfl (lv_at hl 2 rfl) ?_
            refine x_iast hx hb hK hP hD hS 4 0 rfl rfl (k := m) (by omega) (by decide) dX6_shift_83 (fun H locs hP hD hS => ?_)
            have hP : va_P D vwCl (mW b cA (va_up u 0 0) n m (va_up (va_up a 3 (upd (a 3) m p1)) 4 (upd (a 4) m p2))) H := hP
            have hD : va_D (va_A (mW b cA u n m a) sz) (mW b cA (va_up u 0 0) n m (va_up (va_up a 3 (upd (a 3) m p1)) 4 (upd (a 4) m p2))) := hD
            refine lv_aload_n hx hb dX6_shift_84 rfl (lv_at hl 0 rfl) ?_
            refine va_get (D := D) (ci := 6) (v := .ref (b 5)) (C := RX6) (T := TX6) (N := 23) hx hb hts hiX60 hown hK.1 hP 0 rfl rfl 7 (by decide) f4 (fun _ h9 => h9) rfl dX6_shift_85 ?_
            refine lv_aload_n hx hb dX6_shift_88 rfl (lv_at hl 0 rfl) ?_
            refine va_get (D := D) (ci := 6) (v := .int (nI m)) (C := RX6) (T := TX6) (N := 23) hx hb hts hiX60 hown hK.1 hP 0 rfl rfl 4 (by decide) f1 (fun _ h9 => h9) rfl dX6_shift_89 ?_
            refine lv_iload_n hx hb dX6_shift_92 rfl (lv_at hl 3 rfl) ?_
            refine x_iast hx hb hK hP hD hS 5 0 rfl rfl (k := m) (by omega) (by decide) dX6_shift_93 (fun H locs hP hD hS => ?_)
            have hP : va_P D vwCl (mW b cA (va_up u 0 0) n m (va_up (va_up (va_up a 3 (upd (a 3) m p1)) 4 (upd (a 4) m p2)) 5 (upd (a 5) m p3))) H := hP
            have hD : va_D (va_A (mW b cA u n m a) sz) (mW b cA (va_up u 0 0) n m (va_up (va_up (va_up a 3 (upd (a 3) m p1)) 4 (upd (a 4) m p2)) 5 (upd (a 5) m p3))) := hD
            refine lv_aload_n hx hb dX6_shift_94 rfl (lv_at hl 0 rfl) ?_
            refine va_get (D := D) (ci := 6) (v := .ref (b 6)) (C := RX6) (T := TX6) (N := 23) hx hb hts hiX60 hown hK.1 hP 0 rfl rfl 8 (by decide) f5 (fun _ h9 => h9) rfl dX6_shift_95 ?_
            refine lv_aload_n hx hb dX6_shift_98 rfl (lv_at hl 0 rfl) ?_
            refine va_get (D := D) (ci := 6) (v := .int (nI m)) (C := RX6) (T := TX6) (N := 23) hx hb hts hiX60 hown hK.1 hP 0 rfl rfl 4 (by decide) f1 (fun _ h9 => h9) rfl dX6_shift_99 ?_
            refine lv_iload hx hb dX6_shift_102 (lv_at hl 4 rfl) ?_
            refine x_iast hx hb hK hP hD hS 6 0 rfl rfl (k := m) (by omega) (by decide) dX6_shift_104 (fun H locs hP hD hS => ?_)
            have hP : va_P D vwCl (mW b cA (va_up u 0 0) n m (va_up (va_up (va_up (va_up a 3 (upd (a 3) m p1)) 4 (upd (a 4) m p2)) 5 (upd (a 5) m p3)) 6 (upd (a 6) m p4))) H := hP
            have hD : va_D (va_A (mW b cA u n m a) sz) (mW b cA (va_up u 0 0) n m (va_up (va_up (va_up (va_up a 3 (upd (a 3) m p1)) 4 (upd (a 4) m p2)) 5 (upd (a 5) m p3)) 6 (upd (a 6) m p4))) := hD
            refine lv_aload_n hx hb dX6_shift_105 rfl (lv_at hl 0 rfl) ?_
            refine lv_dup hx hb dX6_shift_106 rfl ?_
            refine va_get (D := D) (ci := 6) (v := .int (nI m)) (C := RX6) (T := TX6) (N := 23) hx hb hts hiX60 hown hK.1 hP 0 rfl rfl 4 (by decide) f1 (fun _ h9 => h9) rfl dX6_shift_107 ?_
            refine lv_iconst (v := 1) hx hb dX6_shift_110 (by decide) ?_
            refine lv_iadd hx hb dX6_shift_111 ?_
            refine x_tp (y := nI (m + 1)) (nI_1 m) ?_
            refine va_put (D := D) (ci := 6) (v := .int (nI (m + 1))) (ty := .int) (C := RX6) (T := TX6) (N := 23) hx hb hts hiX60 tyX6 tyX6_ok nmX6 hown hK.1 hP hD hS 0 rfl rfl 4 (by decide) f1 (fun _ h9 => h9) rfl (by decide +kernel) rfl rfl (Nat.le_of_ble_eq_true rfl) dX6_shift_112 (fun H locs hP hD hS => ?_)
            have hP : va_P D vwCl (mW b cA (va_up u 0 0) n (m + 1) (va_up (va_up (va_up (va_up a 3 (upd (a 3) m p1)) 4 (upd (a 4) m p2)) 5 (upd (a 5) m p3)) 6 (upd (a 6) m p4))) H := hP
            have hD : va_D (va_A (mW b cA u n m a) sz) (mW b cA (va_up u 0 0) n (m + 1) (va_up (va_up (va_up (va_up a 3 (upd (a 3) m p1)) 4 (upd (a 4) m p2)) 5 (upd (a 5) m p3)) 6 (upd (a 6) m p4))) := hD
            refine lv_aload_n hx hb dX6_shift_115 rfl (lv_at hl 0 rfl) ?_
            refine va_get (D := D) (ci := 6) (v := .int (nI (m + 1))) (C := RX6) (T := TX6) (N := 23) hx hb hts hiX60 hown hK.1 hP 0 rfl rfl 4 (by decide) f1 (fun _ h9 => h9) rfl dX6_shift_116 ?_
            exact w_iret (S0 := mS) (w1 := mX b cA) (va_up u 0 0, n, m + 1, va_up (va_up (va_up (va_up a 3 (upd (a 3) m p1)) 4 (upd (a 4) m p2)) 5 (upd (a 5) m p3)) 6 (upd (a 6) m p4)) hx hb hr hlk hP hD hS (by rw [mutShift, if_pos c_9, if_pos ⟨c_23, c_33, c_44⟩, if_neg c_57] <;> rfl) dX6_shift_119
          · refine lv_sipush (v := (-1003)) hx hb dX6_shift_60 (by decide) ?_
            exact w_iret (S0 := mS) (w1 := mX b cA) (va_up u 0 0, n, m, a) hx hb hr hlk hP hD hS (by rw [mutShift, if_pos c_9, if_pos ⟨c_23, c_33, c_44⟩, if_pos c_57] <;> rfl) dX6_shift_63
        · refine lv_sipush (v := (-1002)) hx hb dX6_shift_47 (by decide) ?_
          exact w_iret (S0 := mS) (w1 := mX b cA) (va_up u 0 0, n, m, a) hx hb hr hlk hP hD hS (by rw [mutShift, if_pos c_9, if_neg (fun h => c_44 h.2.2)] <;> rfl) dX6_shift_50
  · refine lv_sipush (v := (-1001)) hx hb dX6_shift_12 (by decide) ?_
    exact w_iret (S0 := mS) (w1 := mX b cA) (va_up u 0 0, n, m, a) hx hb hr hlk hP hD hS (by rw [mutShift, if_neg c_9] <;> rfl) dX6_shift_15

set_option maxHeartbeats 4000000 in
set_option maxRecDepth 100000 in
theorem k6_plain (l : Launch) (D : va_G) (b : Nat → Nat) (cA : ClassId) (u : Nat → Int32) (n m : Nat) (a : Nat → Nat → Int32) (sz : Nat) : Met l yX6_plain wsX6_plain ({ frames := 0, cells := 0, slots := 0, locals := 0 }) (wPc D (mW b cA u n m a) [(cA, .int)] sz [.ref (b 0)]) (va_Qi (fun (r : Int32) (x : mS) => (r, x) = (nI m, (va_up u 0 0, n, 0, a))) (wB D (mW b cA u n m a) sz (mX b cA)) (va_A (mW b cA u n m a) sz)) 0 0 (va_A (mW b cA u n m a) sz) := by
  refine w_head (C := RX6) (cc := cX6_plain) (maxL := 2) (ret := (some .int)) [(0, .ref (b 0))] (by decide) rfl rfl (Nat.le_of_ble_eq_true rfl) rfl ?_
  intro p e s mi below meth c hx hb hr hlk hml hown hin hts hP hD hS hA hK ls hl
  have hiX60 : ∀ w ∈ wsX60, w ∈ wsX6_plain := fun w h => List.mem_cons_of_mem _ (List.mem_append_right _ h)
  have f0 := hts (.fieldLink RX6 69 "StaffHeadsModel" "thrown" "I") (List.mem_of_getElem? (i := 1) rfl)
  have f1 := hts (.fieldLink RX6 83 "StaffHeadsModel" "shifts" "I") (List.mem_of_getElem? (i := 2) rfl)
  refine lv_aload_n hx hb dX6_plain_0 rfl (lv_at hl 0 rfl) ?_
  refine lv_iconst (v := 0) hx hb dX6_plain_1 (by decide) ?_
  refine va_put (D := D) (ci := 6) (v := .int 0) (ty := .int) (C := RX6) (T := TX6) (N := 23) hx hb hts hiX60 tyX6 tyX6_ok nmX6 hown hK.1 hP hD hS 0 rfl rfl 0 (by decide) f0 (fun _ h9 => h9) rfl (by decide +kernel) rfl rfl (Nat.le_of_ble_eq_true rfl) dX6_plain_2 (fun H locs hP hD hS => ?_)
  have hP : va_P D vwCl (mW b cA (va_up u 0 0) n m a) H := hP
  have hD : va_D (va_A (mW b cA u n m a) sz) (mW b cA (va_up u 0 0) n m a) := hD
  refine lv_aload_n hx hb dX6_plain_5 rfl (lv_at hl 0 rfl) ?_
  refine va_get (D := D) (ci := 6) (v := .int (nI m)) (C := RX6) (T := TX6) (N := 23) hx hb hts hiX60 hown hK.1 hP 0 rfl rfl 4 (by decide) f1 (fun _ h9 => h9) rfl dX6_plain_6 ?_
  refine lv_istore_n (lv' := [(1, .int (nI m)), (0, .ref (b 0))]) hx hb dX6_plain_9 rfl hl (by decide) rfl (fun ls hl => ?_)
  refine lv_aload_n hx hb dX6_plain_10 rfl (lv_at hl 1 rfl) ?_
  refine lv_iconst (v := 0) hx hb dX6_plain_11 (by decide) ?_
  refine x_tp (y := nI 0) nI_0.symm ?_
  refine va_put (D := D) (ci := 6) (v := .int (nI 0)) (ty := .int) (C := RX6) (T := TX6) (N := 23) hx hb hts hiX60 tyX6 tyX6_ok nmX6 hown hK.1 hP hD hS 0 rfl rfl 4 (by decide) f1 (fun _ h9 => h9) rfl (by decide +kernel) rfl rfl (Nat.le_of_ble_eq_true rfl) dX6_plain_12 (fun H locs hP hD hS => ?_)
  have hP : va_P D vwCl (mW b cA (va_up u 0 0) n 0 a) H := hP
  have hD : va_D (va_A (mW b cA u n m a) sz) (mW b cA (va_up u 0 0) n 0 a) := hD
  refine lv_iload_n hx hb dX6_plain_15 rfl (lv_at hl 0 rfl) ?_
  exact w_iret (S0 := mS) (w1 := mX b cA) (va_up u 0 0, n, 0, a) hx hb hr hlk hP hD hS rfl dX6_plain_16

set_option maxHeartbeats 4000000 in
set_option maxRecDepth 100000 in
theorem k6_note (l : Launch) (D : va_G) (b : Nat → Nat) (cA : ClassId) (u : Nat → Int32) (n m : Nat) (a : Nat → Nat → Int32) (sz : Nat) (p1 p2 p3 p4 p5 p6 p7 : Int32) (hn : n ≤ 60) : Met l yX6_note wsX6_note ({ frames := 2, cells := 0, slots := 0, locals := 42 }) (wPc D (mW b cA u n m a) [(cA, .int)] sz [.ref (b 0), .int p1, .int p2, .int p3, .int p4, .int p5, .int p6, .int p7]) (va_Qi (fun (r : Int32) (x : mS) => (r, x) = mutNote n p1 p2 p3 p4 p5 p6 p7 (va_up u 0 0, n, m, a) (va_up u 0 0, n + 1, m, rNoteA a n p1 p2 p3 p4 p5 p6 p7)) (wB D (mW b cA u n m a) sz (mX b cA)) (va_A (mW b cA u n m a) sz)) 0 0 (va_A (mW b cA u n m a) sz) := by
  refine w_head (C := RX6) (cc := cX6_note) (maxL := 8) (ret := (some .int)) [(0, .ref (b 0)), (1, .int p1), (2, .int p2), (3, .int p3), (4, .int p4), (5, .int p5), (6, .int p6), (7, .int p7)] (by decide) rfl rfl (Nat.le_of_ble_eq_true rfl) rfl ?_
  intro p e s mi below meth c hx hb hr hlk hml hown hin hts hP hD hS hA hK ls hl
  have hiX60 : ∀ w ∈ wsX60, w ∈ wsX6_note := fun w h => List.mem_cons_of_mem _ (List.mem_append_right _ h)
  have f0 := hts (.fieldLink RX6 69 "StaffHeadsModel" "thrown" "I") (List.mem_of_getElem? (i := 1) rfl)
  have f1 := hts (.fieldLink RX6 76 "StaffHeadsModel" "notes" "I") (List.mem_of_getElem? (i := 2) rfl)
  have f2 := hts (.fieldLink RX6 28 "StaffHeadsModel" "staffOf" "[I") (List.mem_of_getElem? (i := 3) rfl)
  have f3 := hts (.fieldLink RX6 31 "StaffHeadsModel" "voiceOf" "[I") (List.mem_of_getElem? (i := 4) rfl)
  have f4 := hts (.fieldLink RX6 34 "StaffHeadsModel" "tickOf" "[I") (List.mem_of_getElem? (i := 5) rfl)
  have f5 := hts (.fieldLink RX6 37 "StaffHeadsModel" "numberOf" "[I") (List.mem_of_getElem? (i := 6) rfl)
  have f6 := hts (.fieldLink RX6 40 "StaffHeadsModel" "signOf" "[I") (List.mem_of_getElem? (i := 7) rfl)
  have f7 := hts (.fieldLink RX6 43 "StaffHeadsModel" "headOf" "[I") (List.mem_of_getElem? (i := 8) rfl)
  refine lv_aload_n hx hb dX6_note_0 rfl (lv_at hl 0 rfl) ?_
  refine lv_iconst (v := 0) hx hb dX6_note_1 (by decide) ?_
  refine va_put (D := D) (ci := 6) (v := .int 0) (ty := .int) (C := RX6) (T := TX6) (N := 23) hx hb hts hiX60 tyX6 tyX6_ok nmX6 hown hK.1 hP hD hS 0 rfl rfl 0 (by decide) f0 (fun _ h9 => h9) rfl (by decide +kernel) rfl rfl (Nat.le_of_ble_eq_true rfl) dX6_note_2 (fun H locs hP hD hS => ?_)
  have hP : va_P D vwCl (mW b cA (va_up u 0 0) n m a) H := hP
  have hD : va_D (va_A (mW b cA u n m a) sz) (mW b cA (va_up u 0 0) n m a) := hD
  refine lv_iload_n hx hb dX6_note_5 rfl (lv_at hl 1 rfl) ?_
  refine rcSi (As := [.int p1]) (rest := []) ⟨hx, hb, hml, hown, hts⟩ (k6_isStaff l p1) (va_cwS 1 hts gX6_note_X6_isStaff rfl rfl rfl (by decide +kernel) ⟨Nat.le_of_ble_eq_true rfl, Nat.le_of_ble_eq_true rfl⟩) rfl hl.1 rfl (Nat.le_of_ble_eq_true rfl) dX6_note_6 ⟨Nat.zero_le _, Nat.zero_le _⟩ ?_
  refine x_ifne (tgt := 16) hx hb dX6_note_9 (by decide) (fun (c_9 : ¬ p1 < 0 ∧ ¬ 3 < p1) => ?_) (fun (c_9 : ¬ (¬ p1 < 0 ∧ ¬ 3 < p1)) => ?_)
  · refine lv_iload_n hx hb dX6_note_16 rfl (lv_at hl 2 rfl) ?_
    refine lv_iconst (v := 0) hx hb dX6_note_17 (by decide) ?_
    refine lv_iconst (v := 2) hx hb dX6_note_18 (by decide) ?_
    refine rcSi (As := [.int p2, .int 0, .int 2]) (rest := []) ⟨hx, hb, hml, hown, hts⟩ (k6_in l p2 0 2) (va_cwS 3 hts gX6_note_X6_in rfl rfl rfl (by decide +kernel) ⟨Nat.le_of_ble_eq_true rfl, Nat.le_of_ble_eq_true rfl⟩) rfl hl.1 rfl (Nat.le_of_ble_eq_true rfl) dX6_note_19 ⟨Nat.zero_le _, Nat.zero_le _⟩ ?_
    refine x_ifeq (tgt := 78) hx hb dX6_note_22 (by decide) (fun (c_22 : ¬ (¬ p2 < 0 ∧ ¬ 2 < p2)) => ?_) (fun (c_22 : ¬ p2 < 0 ∧ ¬ 2 < p2) => ?_)
    · refine lv_sipush (v := (-1002)) hx hb dX6_note_78 (by decide) ?_
      exact w_iret (S0 := mS) (w1 := mX b cA) (va_up u 0 0, n, m, a) hx hb hr hlk hP hD hS (by rw [mutNote, if_pos c_9, if_neg (fun h => c_22 h.1)] <;> rfl) dX6_note_81
    · refine lv_iload_n hx hb dX6_note_25 rfl (lv_at hl 3 rfl) ?_
      refine lv_iconst (v := 0) hx hb dX6_note_26 (by decide) ?_
      refine lv_bipush (v := 99) hx hb dX6_note_27 (by decide) ?_
      refine rcSi (As := [.int p3, .int 0, .int 99]) (rest := []) ⟨hx, hb, hml, hown, hts⟩ (k6_in l p3 0 99) (va_cwS 3 hts gX6_note_X6_in rfl rfl rfl (by decide +kernel) ⟨Nat.le_of_ble_eq_true rfl, Nat.le_of_ble_eq_true rfl⟩) rfl hl.1 rfl (Nat.le_of_ble_eq_true rfl) dX6_note_29 ⟨Nat.zero_le _, Nat.zero_le _⟩ ?_
      refine x_ifeq (tgt := 78) hx hb dX6_note_32 (by decide) (fun (c_32 : ¬ (¬ p3 < 0 ∧ ¬ 99 < p3)) => ?_) (fun (c_32 : ¬ p3 < 0 ∧ ¬ 99 < p3) => ?_)
      · refine lv_sipush (v := (-1002)) hx hb dX6_note_78 (by decide) ?_
        exact w_iret (S0 := mS) (w1 := mX b cA) (va_up u 0 0, n, m, a) hx hb hr hlk hP hD hS (by rw [mutNote, if_pos c_9, if_neg (fun h => c_32 h.2.1)] <;> rfl) dX6_note_81
      · refine lv_iload hx hb dX6_note_35 (lv_at hl 4 rfl) ?_
        refine lv_iconst (v := 0) hx hb dX6_note_37 (by decide) ?_
        refine lv_bipush (v := 6) hx hb dX6_note_38 (by decide) ?_
        refine rcSi (As := [.int p4, .int 0, .int 6]) (rest := []) ⟨hx, hb, hml, hown, hts⟩ (k6_in l p4 0 6) (va_cwS 3 hts gX6_note_X6_in rfl rfl rfl (by decide +kernel) ⟨Nat.le_of_ble_eq_true rfl, Nat.le_of_ble_eq_true rfl⟩) rfl hl.1 rfl (Nat.le_of_ble_eq_true rfl) dX6_note_40 ⟨Nat.zero_le _, Nat.zero_le _⟩ ?_
        refine x_ifeq (tgt := 78) hx hb dX6_note_43 (by decide) (fun (c_43 : ¬ (¬ p4 < 0 ∧ ¬ 6 < p4)) => ?_) (fun (c_43 : ¬ p4 < 0 ∧ ¬ 6 < p4) => ?_)
        · refine lv_sipush (v := (-1002)) hx hb dX6_note_78 (by decide) ?_
          exact w_iret (S0 := mS) (w1 := mX b cA) (va_up u 0 0, n, m, a) hx hb hr hlk hP hD hS (by rw [mutNote, if_pos c_9, if_neg (fun h => c_43 h.2.2.1)] <;> rfl) dX6_note_81
        · refine lv_iload hx hb dX6_note_46 (lv_at hl 5 rfl) ?_
          refine lv_iconst (v := 0) hx hb dX6_note_48 (by decide) ?_
          refine lv_bipush (v := 9) hx hb dX6_note_49 (by decide) ?_
          refine rcSi (As := [.int p5, .int 0, .int 9]) (rest := []) ⟨hx, hb, hml, hown, hts⟩ (k6_in l p5 0 9) (va_cwS 3 hts gX6_note_X6_in rfl rfl rfl (by decide +kernel) ⟨Nat.le_of_ble_eq_true rfl, Nat.le_of_ble_eq_true rfl⟩) rfl hl.1 rfl (Nat.le_of_ble_eq_true rfl) dX6_note_51 ⟨Nat.zero_le _, Nat.zero_le _⟩ ?_
          refine x_ifeq (tgt := 78) hx hb dX6_note_54 (by decide) (fun (c_54 : ¬ (¬ p5 < 0 ∧ ¬ 9 < p5)) => ?_) (fun (c_54 : ¬ p5 < 0 ∧ ¬ 9 < p5) => ?_)
          · refine lv_sipush (v := (-1002)) hx hb dX6_note_78 (by decide) ?_
            exact w_iret (S0 := mS) (w1 := mX b cA) (va_up u 0 0, n, m, a) hx hb hr hlk hP hD hS (by rw [mutNote, if_pos c_9, if_neg (fun h => c_54 h.2.2.2.1)] <;> rfl) dX6_note_81
          · refine lv_iload hx hb dX6_note_57 (lv_at hl 6 rfl) ?_
            refine lv_bipush (v := (-2)) hx hb dX6_note_59 (by decide) ?_
            refine lv_iconst (v := 3) hx hb dX6_note_61 (by decide) ?_
            refine rcSi (As := [.int p6, .int (-2), .int 3]) (rest := []) ⟨hx, hb, hml, hown, hts⟩ (k6_in l p6 (-2) 3) (va_cwS 3 hts gX6_note_X6_in rfl rfl rfl (by decide +kernel) ⟨Nat.le_of_ble_eq_true rfl, Nat.le_of_ble_eq_true rfl⟩) rfl hl.1 rfl (Nat.le_of_ble_eq_true rfl) dX6_note_62 ⟨Nat.zero_le _, Nat.zero_le _⟩ ?_
            refine x_ifeq (tgt := 78) hx hb dX6_note_65 (by decide) (fun (c_65 : ¬ (¬ p6 < (-2) ∧ ¬ 3 < p6)) => ?_) (fun (c_65 : ¬ p6 < (-2) ∧ ¬ 3 < p6) => ?_)
            · refine lv_sipush (v := (-1002)) hx hb dX6_note_78 (by decide) ?_
              exact w_iret (S0 := mS) (w1 := mX b cA) (va_up u 0 0, n, m, a) hx hb hr hlk hP hD hS (by rw [mutNote, if_pos c_9, if_neg (fun h => c_65 h.2.2.2.2.1)] <;> rfl) dX6_note_81
            · refine lv_iload hx hb dX6_note_68 (lv_at hl 7 rfl) ?_
              refine lv_iconst (v := 0) hx hb dX6_note_70 (by decide) ?_
              refine lv_iconst (v := 2) hx hb dX6_note_71 (by decide) ?_
              refine rcSi (As := [.int p7, .int 0, .int 2]) (rest := []) ⟨hx, hb, hml, hown, hts⟩ (k6_in l p7 0 2) (va_cwS 3 hts gX6_note_X6_in rfl rfl rfl (by decide +kernel) ⟨Nat.le_of_ble_eq_true rfl, Nat.le_of_ble_eq_true rfl⟩) rfl hl.1 rfl (Nat.le_of_ble_eq_true rfl) dX6_note_72 ⟨Nat.zero_le _, Nat.zero_le _⟩ ?_
              refine x_ifne (tgt := 82) hx hb dX6_note_75 (by decide) (fun (c_75 : ¬ p7 < 0 ∧ ¬ 2 < p7) => ?_) (fun (c_75 : ¬ (¬ p7 < 0 ∧ ¬ 2 < p7)) => ?_)
              · refine lv_aload_n hx hb dX6_note_82 rfl (lv_at hl 0 rfl) ?_
                refine va_get (D := D) (ci := 6) (v := .int (nI n)) (C := RX6) (T := TX6) (N := 23) hx hb hts hiX60 hown hK.1 hP 0 rfl rfl 9 (by decide) f1 (fun _ h9 => h9) rfl dX6_note_83 ?_
                refine lv_bipush (v := 60) hx hb dX6_note_86 (by decide) ?_
                refine x_tp (y := nI 60) (show (60 : Int32) = nI 60 from rfl) ?_
                refine x_nne (tgt := 95) hx hb dX6_note_88 (by decide) (by omega) (by omega) (fun c_88 => ?_) (fun c_88 => ?_)
                · refine lv_aload_n hx hb dX6_note_95 rfl (lv_at hl 0 rfl) ?_
                  refine va_get (D := D) (ci := 6) (v := .ref (b 7)) (C := RX6) (T := TX6) (N := 23) hx hb hts hiX60 hown hK.1 hP 0 rfl rfl 10 (by decide) f2 (fun _ h9 => h9) rfl dX6_note_96 ?_
                  refine lv_aload_n hx hb dX6_note_99 rfl (lv_at hl 0 rfl) ?_
                  refine va_get (D := D) (ci := 6) (v := .int (nI n)) (C := RX6) (T := TX6) (N := 23) hx hb hts hiX60 hown hK.1 hP 0 rfl rfl 9 (by decide) f1 (fun _ h9 => h9) rfl dX6_note_100 ?_
                  refine lv_iload_n hx hb dX6_note_103 rfl (lv_at hl 1 rfl) ?_
                  refine x_iast hx hb hK hP hD hS 7 0 rfl rfl (k := n) (by omega) (by decide) dX6_note_104 (fun H locs hP hD hS => ?_)
                  have hP : va_P D vwCl (mW b cA (va_up u 0 0) n m (va_up a 7 (upd (a 7) n p1))) H := hP
                  have hD : va_D (va_A (mW b cA u n m a) sz) (mW b cA (va_up u 0 0) n m (va_up a 7 (upd (a 7) n p1))) := hD
                  refine lv_aload_n hx hb dX6_note_105 rfl (lv_at hl 0 rfl) ?_
                  refine va_get (D := D) (ci := 6) (v := .ref (b 8)) (C := RX6) (T := TX6) (N := 23) hx hb hts hiX60 hown hK.1 hP 0 rfl rfl 11 (by decide) f3 (fun _ h9 => h9) rfl dX6_note_106 ?_
                  refine lv_aload_n hx hb dX6_note_109 rfl (lv_at hl 0 rfl) ?_
                  refine va_get (D := D) (ci := 6) (v := .int (nI n)) (C := RX6) (T := TX6) (N := 23) hx hb hts hiX60 hown hK.1 hP 0 rfl rfl 9 (by decide) f1 (fun _ h9 => h9) rfl dX6_note_110 ?_
                  refine lv_iload_n hx hb dX6_note_113 rfl (lv_at hl 2 rfl) ?_
                  refine x_iast hx hb hK hP hD hS 8 0 rfl rfl (k := n) (by omega) (by decide) dX6_note_114 (fun H locs hP hD hS => ?_)
                  have hP : va_P D vwCl (mW b cA (va_up u 0 0) n m (va_up (va_up a 7 (upd (a 7) n p1)) 8 (upd (a 8) n p2))) H := hP
                  have hD : va_D (va_A (mW b cA u n m a) sz) (mW b cA (va_up u 0 0) n m (va_up (va_up a 7 (upd (a 7) n p1)) 8 (upd (a 8) n p2))) := hD
                  refine lv_aload_n hx hb dX6_note_115 rfl (lv_at hl 0 rfl) ?_
                  refine va_get (D := D) (ci := 6) (v := .ref (b 9)) (C := RX6) (T := TX6) (N := 23) hx hb hts hiX60 hown hK.1 hP 0 rfl rfl 12 (by decide) f4 (fun _ h9 => h9) rfl dX6_note_116 ?_
                  refine lv_aload_n hx hb dX6_note_119 rfl (lv_at hl 0 rfl) ?_
                  refine va_get (D := D) (ci := 6) (v := .int (nI n)) (C := RX6) (T := TX6) (N := 23) hx hb hts hiX60 hown hK.1 hP 0 rfl rfl 9 (by decide) f1 (fun _ h9 => h9) rfl dX6_note_120 ?_
                  refine lv_iload_n hx hb dX6_note_123 rfl (lv_at hl 3 rfl) ?_
                  refine x_iast hx hb hK hP hD hS 9 0 rfl rfl (k := n) (by omega) (by decide) dX6_note_124 (fun H locs hP hD hS => ?_)
                  have hP : va_P D vwCl (mW b cA (va_up u 0 0) n m (va_up (va_up (va_up a 7 (upd (a 7) n p1)) 8 (upd (a 8) n p2)) 9 (upd (a 9) n p3))) H := hP
                  have hD : va_D (va_A (mW b cA u n m a) sz) (mW b cA (va_up u 0 0) n m (va_up (va_up (va_up a 7 (upd (a 7) n p1)) 8 (upd (a 8) n p2)) 9 (upd (a 9) n p3))) := hD
                  refine lv_aload_n hx hb dX6_note_125 rfl (lv_at hl 0 rfl) ?_
                  refine va_get (D := D) (ci := 6) (v := .ref (b 10)) (C := RX6) (T := TX6) (N := 23) hx hb hts hiX60 hown hK.1 hP 0 rfl rfl 13 (by decide) f5 (fun _ h9 => h9) rfl dX6_note_126 ?_
                  refine lv_aload_n hx hb dX6_note_129 rfl (lv_at hl 0 rfl) ?_
                  refine va_get (D := D) (ci := 6) (v := .int (nI n)) (C := RX6) (T := TX6) (N := 23) hx hb hts hiX60 hown hK.1 hP 0 rfl rfl 9 (by decide) f1 (fun _ h9 => h9) rfl dX6_note_130 ?_
                  refine lv_bipush (v := 7) hx hb dX6_note_133 (by decide) ?_
                  refine lv_iload hx hb dX6_note_135 (lv_at hl 5 rfl) ?_
                  refine lv_imul hx hb dX6_note_137 ?_
                  refine lv_iload hx hb dX6_note_138 (lv_at hl 4 rfl) ?_
                  refine lv_iadd hx hb dX6_note_140 ?_
                  refine x_iast hx hb hK hP hD hS 10 0 rfl rfl (k := n) (by omega) (by decide) dX6_note_141 (fun H locs hP hD hS => ?_)
                  have hP : va_P D vwCl (mW b cA (va_up u 0 0) n m (va_up (va_up (va_up (va_up a 7 (upd (a 7) n p1)) 8 (upd (a 8) n p2)) 9 (upd (a 9) n p3)) 10 (upd (a 10) n ((7 * p5) + p4)))) H := hP
                  have hD : va_D (va_A (mW b cA u n m a) sz) (mW b cA (va_up u 0 0) n m (va_up (va_up (va_up (va_up a 7 (upd (a 7) n p1)) 8 (upd (a 8) n p2)) 9 (upd (a 9) n p3)) 10 (upd (a 10) n ((7 * p5) + p4)))) := hD
                  refine lv_aload_n hx hb dX6_note_142 rfl (lv_at hl 0 rfl) ?_
                  refine va_get (D := D) (ci := 6) (v := .ref (b 11)) (C := RX6) (T := TX6) (N := 23) hx hb hts hiX60 hown hK.1 hP 0 rfl rfl 14 (by decide) f6 (fun _ h9 => h9) rfl dX6_note_143 ?_
                  refine lv_aload_n hx hb dX6_note_146 rfl (lv_at hl 0 rfl) ?_
                  refine va_get (D := D) (ci := 6) (v := .int (nI n)) (C := RX6) (T := TX6) (N := 23) hx hb hts hiX60 hown hK.1 hP 0 rfl rfl 9 (by decide) f1 (fun _ h9 => h9) rfl dX6_note_147 ?_
                  refine lv_iload hx hb dX6_note_150 (lv_at hl 6 rfl) ?_
                  refine x_iast hx hb hK hP hD hS 11 0 rfl rfl (k := n) (by omega) (by decide) dX6_note_152 (fun H locs hP hD hS => ?_)
                  have hP : va_P D vwCl (mW b cA (va_up u 0 0) n m (va_up (va_up (va_up (va_up (va_up a 7 (upd (a 7) n p1)) 8 (upd (a 8) n p2)) 9 (upd (a 9) n p3)) 10 (upd (a 10) n ((7 * p5) + p4))) 11 (upd (a 11) n p6))) H := hP
                  have hD : va_D (va_A (mW b cA u n m a) sz) (mW b cA (va_up u 0 0) n m (va_up (va_up (va_up (va_up (va_up a 7 (upd (a 7) n p1)) 8 (upd (a 8) n p2)) 9 (upd (a 9) n p3)) 10 (upd (a 10) n ((7 * p5) + p4))) 11 (upd (a 11) n p6))) := hD
                  refine lv_aload_n hx hb dX6_note_153 rfl (lv_at hl 0 rfl) ?_
                  refine va_get (D := D) (ci := 6) (v := .ref (b 12)) (C := RX6) (T := TX6) (N := 23) hx hb hts hiX60 hown hK.1 hP 0 rfl rfl 15 (by decide) f7 (fun _ h9 => h9) rfl dX6_note_154 ?_
                  refine lv_aload_n hx hb dX6_note_157 rfl (lv_at hl 0 rfl) ?_
                  refine va_get (D := D) (ci := 6) (v := .int (nI n)) (C := RX6) (T := TX6) (N := 23) hx hb hts hiX60 hown hK.1 hP 0 rfl rfl 9 (by decide) f1 (fun _ h9 => h9) rfl dX6_note_158 ?_
                  refine lv_iload hx hb dX6_note_161 (lv_at hl 7 rfl) ?_
                  refine x_iast hx hb hK hP hD hS 12 0 rfl rfl (k := n) (by omega) (by decide) dX6_note_163 (fun H locs hP hD hS => ?_)
                  have hP : va_P D vwCl (mW b cA (va_up u 0 0) n m (va_up (va_up (va_up (va_up (va_up (va_up a 7 (upd (a 7) n p1)) 8 (upd (a 8) n p2)) 9 (upd (a 9) n p3)) 10 (upd (a 10) n ((7 * p5) + p4))) 11 (upd (a 11) n p6)) 12 (upd (a 12) n p7))) H := hP
                  have hD : va_D (va_A (mW b cA u n m a) sz) (mW b cA (va_up u 0 0) n m (va_up (va_up (va_up (va_up (va_up (va_up a 7 (upd (a 7) n p1)) 8 (upd (a 8) n p2)) 9 (upd (a 9) n p3)) 10 (upd (a 10) n ((7 * p5) + p4))) 11 (upd (a 11) n p6)) 12 (upd (a 12) n p7))) := hD
                  refine lv_aload_n hx hb dX6_note_164 rfl (lv_at hl 0 rfl) ?_
                  refine lv_dup hx hb dX6_note_165 rfl ?_
                  refine va_get (D := D) (ci := 6) (v := .int (nI n)) (C := RX6) (T := TX6) (N := 23) hx hb hts hiX60 hown hK.1 hP 0 rfl rfl 9 (by decide) f1 (fun _ h9 => h9) rfl dX6_note_166 ?_
                  refine lv_iconst (v := 1) hx hb dX6_note_169 (by decide) ?_
                  refine lv_iadd hx hb dX6_note_170 ?_
                  refine x_tp (y := nI (n + 1)) (nI_1 n) ?_
                  refine va_put (D := D) (ci := 6) (v := .int (nI (n + 1))) (ty := .int) (C := RX6) (T := TX6) (N := 23) hx hb hts hiX60 tyX6 tyX6_ok nmX6 hown hK.1 hP hD hS 0 rfl rfl 9 (by decide) f1 (fun _ h9 => h9) rfl (by decide +kernel) rfl rfl (Nat.le_of_ble_eq_true rfl) dX6_note_171 (fun H locs hP hD hS => ?_)
                  have hP : va_P D vwCl (mW b cA (va_up u 0 0) (n + 1) m (va_up (va_up (va_up (va_up (va_up (va_up a 7 (upd (a 7) n p1)) 8 (upd (a 8) n p2)) 9 (upd (a 9) n p3)) 10 (upd (a 10) n ((7 * p5) + p4))) 11 (upd (a 11) n p6)) 12 (upd (a 12) n p7))) H := hP
                  have hD : va_D (va_A (mW b cA u n m a) sz) (mW b cA (va_up u 0 0) (n + 1) m (va_up (va_up (va_up (va_up (va_up (va_up a 7 (upd (a 7) n p1)) 8 (upd (a 8) n p2)) 9 (upd (a 9) n p3)) 10 (upd (a 10) n ((7 * p5) + p4))) 11 (upd (a 11) n p6)) 12 (upd (a 12) n p7))) := hD
                  refine lv_aload_n hx hb dX6_note_174 rfl (lv_at hl 0 rfl) ?_
                  refine va_get (D := D) (ci := 6) (v := .int (nI (n + 1))) (C := RX6) (T := TX6) (N := 23) hx hb hts hiX60 hown hK.1 hP 0 rfl rfl 9 (by decide) f1 (fun _ h9 => h9) rfl dX6_note_175 ?_
                  refine lv_iconst (v := 1) hx hb dX6_note_178 (by decide) ?_
                  refine lv_isub hx hb dX6_note_179 ?_
                  refine x_tp (y := nI n) (nI_pred n) ?_
                  exact w_iret (S0 := mS) (w1 := mX b cA) (va_up u 0 0, n + 1, m, va_up (va_up (va_up (va_up (va_up (va_up a 7 (upd (a 7) n p1)) 8 (upd (a 8) n p2)) 9 (upd (a 9) n p3)) 10 (upd (a 10) n ((7 * p5) + p4))) 11 (upd (a 11) n p6)) 12 (upd (a 12) n p7)) hx hb hr hlk hP hD hS (by rw [mutNote, if_pos c_9, if_pos ⟨c_22, c_32, c_43, c_54, c_65, c_75⟩, if_neg c_88] <;> rfl) dX6_note_180
                · refine lv_sipush (v := (-1003)) hx hb dX6_note_91 (by decide) ?_
                  exact w_iret (S0 := mS) (w1 := mX b cA) (va_up u 0 0, n, m, a) hx hb hr hlk hP hD hS (by rw [mutNote, if_pos c_9, if_pos ⟨c_22, c_32, c_43, c_54, c_65, c_75⟩, if_pos c_88] <;> rfl) dX6_note_94
              · refine lv_sipush (v := (-1002)) hx hb dX6_note_78 (by decide) ?_
                exact w_iret (S0 := mS) (w1 := mX b cA) (va_up u 0 0, n, m, a) hx hb hr hlk hP hD hS (by rw [mutNote, if_pos c_9, if_neg (fun h => c_75 h.2.2.2.2.2)] <;> rfl) dX6_note_81
  · refine lv_sipush (v := (-1001)) hx hb dX6_note_12 (by decide) ?_
    exact w_iret (S0 := mS) (w1 := mX b cA) (va_up u 0 0, n, m, a) hx hb hr hlk hP hD hS (by rw [mutNote, if_neg c_9] <;> rfl) dX6_note_15

set_option maxHeartbeats 4000000 in
set_option maxRecDepth 100000 in
theorem k6_drop (l : Launch) (D : va_G) (b : Nat → Nat) (cA : ClassId) (u : Nat → Int32) (n m : Nat) (a : Nat → Nat → Int32) (sz : Nat) (p1 : Int32) (hn : n ≤ 60) : Met l yX6_drop wsX6_drop ({ frames := 2, cells := 0, slots := 0, locals := 43 }) (wPc D (mW b cA u n m a) [(cA, .int)] sz [.ref (b 0), .int p1]) (va_Qi (fun (r : Int32) (x : mS) => (r, x) = mutDrop n p1 (va_up u 0 0, n, m, a) (va_up u 0 0, n - 1, m, rDrA a p1.toNatClampNeg (n - 1 - p1.toNatClampNeg))) (wB D (mW b cA u n m a) sz (mX b cA)) (va_A (mW b cA u n m a) sz)) 0 0 (va_A (mW b cA u n m a) sz) := by
  refine w_head (C := RX6) (cc := cX6_drop) (maxL := 3) (ret := (some .int)) [(0, .ref (b 0)), (1, .int p1)] (by decide) rfl rfl (Nat.le_of_ble_eq_true rfl) rfl ?_
  intro p e s mi below meth c hx hb hr hlk hml hown hin hts hP hD hS hA hK ls hl
  have hiX60 : ∀ w ∈ wsX60, w ∈ wsX6_drop := fun w h => List.mem_cons_of_mem _ (List.mem_append_right _ h)
  have f0 := hts (.fieldLink RX6 69 "StaffHeadsModel" "thrown" "I") (List.mem_of_getElem? (i := 1) rfl)
  have f1 := hts (.fieldLink RX6 76 "StaffHeadsModel" "notes" "I") (List.mem_of_getElem? (i := 2) rfl)
  have f2 := hts (.fieldLink RX6 28 "StaffHeadsModel" "staffOf" "[I") (List.mem_of_getElem? (i := 3) rfl)
  have f3 := hts (.fieldLink RX6 31 "StaffHeadsModel" "voiceOf" "[I") (List.mem_of_getElem? (i := 4) rfl)
  have f4 := hts (.fieldLink RX6 34 "StaffHeadsModel" "tickOf" "[I") (List.mem_of_getElem? (i := 5) rfl)
  have f5 := hts (.fieldLink RX6 37 "StaffHeadsModel" "numberOf" "[I") (List.mem_of_getElem? (i := 6) rfl)
  have f6 := hts (.fieldLink RX6 40 "StaffHeadsModel" "signOf" "[I") (List.mem_of_getElem? (i := 7) rfl)
  have f7 := hts (.fieldLink RX6 43 "StaffHeadsModel" "headOf" "[I") (List.mem_of_getElem? (i := 8) rfl)
  refine lv_aload_n hx hb dX6_drop_0 rfl (lv_at hl 0 rfl) ?_
  refine lv_iconst (v := 0) hx hb dX6_drop_1 (by decide) ?_
  refine va_put (D := D) (ci := 6) (v := .int 0) (ty := .int) (C := RX6) (T := TX6) (N := 23) hx hb hts hiX60 tyX6 tyX6_ok nmX6 hown hK.1 hP hD hS 0 rfl rfl 0 (by decide) f0 (fun _ h9 => h9) rfl (by decide +kernel) rfl rfl (Nat.le_of_ble_eq_true rfl) dX6_drop_2 (fun H locs hP hD hS => ?_)
  have hP : va_P D vwCl (mW b cA (va_up u 0 0) n m a) H := hP
  have hD : va_D (va_A (mW b cA u n m a) sz) (mW b cA (va_up u 0 0) n m a) := hD
  refine lv_aload_n hx hb dX6_drop_5 rfl (lv_at hl 0 rfl) ?_
  refine lv_iload_n hx hb dX6_drop_6 rfl (lv_at hl 1 rfl) ?_
  refine rcVi (As := [.int p1]) (rest := []) ⟨hx, hb, hml, hown, hts⟩ (k6_isNote l D b cA (va_up u 0 0) n m a p1 ) (cwV 1 hts gX6_drop_X6_isNote rfl rfl rfl (by decide +kernel) ⟨Nat.le_of_ble_eq_true rfl, Nat.le_of_ble_eq_true rfl⟩) (va_recv hK.1 hP (ci := 6) (q0 := 0) rfl rfl) hP hK rfl hl.1 rfl (Nat.le_of_ble_eq_true rfl) dX6_drop_7 ⟨Nat.zero_le _, Nat.zero_le _⟩ ?_
  refine x_ifne (tgt := 17) hx hb dX6_drop_10 (by decide) (fun (c_10 : ¬ p1 < 0 ∧ ¬ nI n - 1 < p1) => ?_) (fun (c_10 : ¬ (¬ p1 < 0 ∧ ¬ nI n - 1 < p1)) => ?_)
  · have hj := ok_note hn c_10
    obtain ⟨j, hje⟩ : ∃ j, j = p1.toNatClampNeg := ⟨_, rfl⟩
    rw [← hje] at hj ⊢
    refine lv_aload_n hx hb dX6_drop_17 rfl (lv_at hl 0 rfl) ?_
    refine lv_dup hx hb dX6_drop_18 rfl ?_
    refine va_get (D := D) (ci := 6) (v := .int (nI n)) (C := RX6) (T := TX6) (N := 23) hx hb hts hiX60 hown hK.1 hP 0 rfl rfl 9 (by decide) f1 (fun _ h9 => h9) rfl dX6_drop_19 ?_
    refine lv_iconst (v := 1) hx hb dX6_drop_22 (by decide) ?_
    refine lv_isub hx hb dX6_drop_23 ?_
    refine x_tp (y := nI (n - 1)) (x_sub1 (by omega)) ?_
    refine va_put (D := D) (ci := 6) (v := .int (nI (n - 1))) (ty := .int) (C := RX6) (T := TX6) (N := 23) hx hb hts hiX60 tyX6 tyX6_ok nmX6 hown hK.1 hP hD hS 0 rfl rfl 9 (by decide) f1 (fun _ h9 => h9) rfl (by decide +kernel) rfl rfl (Nat.le_of_ble_eq_true rfl) dX6_drop_24 (fun H locs hP hD hS => ?_)
    have hP : va_P D vwCl (mW b cA (va_up u 0 0) (n - 1) m a) H := hP
    have hD : va_D (va_A (mW b cA u n m a) sz) (mW b cA (va_up u 0 0) (n - 1) m a) := hD
    refine lv_iload_n hx hb dX6_drop_27 rfl (lv_at hl 1 rfl) ?_
    refine x_tp (y := nI (j + 0)) hj.1 ?_
    refine lv_istore_n (lv' := [(2, .int (nI (j + 0))), (0, .ref (b 0)), (1, .int p1)]) hx hb dX6_drop_28 rfl hl (by decide) rfl (fun ls hl => ?_)
    refine lpW (G := fun ls H locs => W p l e _ s mi _ below meth c H locs _ _ _ (F0 mi 29 ls [])) 3 (n - 1 - j) (fun i (_ : Unit) => [(0, .ref (b 0)), (1, .int p1), (2, .int (nI (j + i)))]) (fun i (_ : Unit) => mW b cA (va_up u 0 0) (n - 1) m (va_up (va_up (va_up (va_up (va_up (va_up a 7 (rDr (a 7) j i)) 8 (rDr (a 8) j i)) 9 (rDr (a 9) j i)) 10 (rDr (a 10) j i)) 11 (rDr (a 11) j i)) 12 (rDr (a 12) j i))) (fun _ _ => True) ?_ 0 () (Nat.zero_le _) trivial (lv_sub hl [1, 2, 0] rfl) hP hD hS
    clear hl hP hD hS
    intro i gu hi hiI ls H locs hl hP hD hS ihi
    refine lv_iload_n hx hb dX6_drop_29 rfl (lv_at hl 2 rfl) ?_
    refine lv_aload_n hx hb dX6_drop_30 rfl (lv_at hl 0 rfl) ?_
    refine va_get (D := D) (ci := 6) (v := .int (nI (n - 1))) (C := RX6) (T := TX6) (N := 23) hx hb hts hiX60 hown hK.1 hP 0 rfl rfl 9 (by decide) f1 (fun _ h9 => h9) rfl dX6_drop_31 ?_
    refine x_nge (tgt := 127) hx hb dX6_drop_34 (by decide) (by omega) (by omega) (fun c_34 => ?_) (fun c_34 => ?_)
    · obtain rfl : n - 1 - j = i := by omega
      refine lv_aload_n hx hb dX6_drop_127 rfl (lv_at hl 0 rfl) ?_
      refine va_get (D := D) (ci := 6) (v := .int (nI (n - 1))) (C := RX6) (T := TX6) (N := 23) hx hb hts hiX60 hown hK.1 hP 0 rfl rfl 9 (by decide) f1 (fun _ h9 => h9) rfl dX6_drop_128 ?_
      exact w_iret (S0 := mS) (w1 := mX b cA) (va_up u 0 0, n - 1, m, va_up (va_up (va_up (va_up (va_up (va_up a 7 (rDr (a 7) j (n - 1 - j))) 8 (rDr (a 8) j (n - 1 - j))) 9 (rDr (a 9) j (n - 1 - j))) 10 (rDr (a 10) j (n - 1 - j))) 11 (rDr (a 11) j (n - 1 - j))) 12 (rDr (a 12) j (n - 1 - j))) hx hb hr hlk hP hD hS (by rw [mutDrop, if_pos c_10] <;> rfl) dX6_drop_131
    · refine lv_aload_n hx hb dX6_drop_37 rfl (lv_at hl 0 rfl) ?_
      refine va_get (D := D) (ci := 6) (v := .ref (b 7)) (C := RX6) (T := TX6) (N := 23) hx hb hts hiX60 hown hK.1 hP 0 rfl rfl 10 (by decide) f2 (fun _ h9 => h9) rfl dX6_drop_38 ?_
      refine lv_iload_n hx hb dX6_drop_41 rfl (lv_at hl 2 rfl) ?_
      refine lv_aload_n hx hb dX6_drop_42 rfl (lv_at hl 0 rfl) ?_
      refine va_get (D := D) (ci := 6) (v := .ref (b 7)) (C := RX6) (T := TX6) (N := 23) hx hb hts hiX60 hown hK.1 hP 0 rfl rfl 10 (by decide) f2 (fun _ h9 => h9) rfl dX6_drop_43 ?_
      refine lv_iload_n hx hb dX6_drop_46 rfl (lv_at hl 2 rfl) ?_
      refine lv_iconst (v := 1) hx hb dX6_drop_47 (by decide) ?_
      refine lv_iadd hx hb dX6_drop_48 ?_
      refine x_tp (y := nI (j + i + 1)) (nI_1 (j + i)) ?_
      refine x_iald hx hb hK hP 7 0 rfl rfl (k := (j + i + 1)) (by omega) (by decide) dX6_drop_49 ?_
      refine x_iast hx hb hK hP hD hS 7 0 rfl rfl (k := (j + i)) (by omega) (by decide) dX6_drop_50 (fun H locs hP hD hS => ?_)
      have hP : va_P D vwCl (mW b cA (va_up u 0 0) (n - 1) m (va_up (va_up (va_up (va_up (va_up (va_up (va_up a 7 (rDr (a 7) j i)) 8 (rDr (a 8) j i)) 9 (rDr (a 9) j i)) 10 (rDr (a 10) j i)) 11 (rDr (a 11) j i)) 12 (rDr (a 12) j i)) 7 (upd (rDr (a 7) j i) (j + i) ((rDr (a 7) j i) (j + i + 1))))) H := hP
      have hD : va_D (va_A (mW b cA u n m a) sz) (mW b cA (va_up u 0 0) (n - 1) m (va_up (va_up (va_up (va_up (va_up (va_up (va_up a 7 (rDr (a 7) j i)) 8 (rDr (a 8) j i)) 9 (rDr (a 9) j i)) 10 (rDr (a 10) j i)) 11 (rDr (a 11) j i)) 12 (rDr (a 12) j i)) 7 (upd (rDr (a 7) j i) (j + i) ((rDr (a 7) j i) (j + i + 1))))) := hD
      refine lv_aload_n hx hb dX6_drop_51 rfl (lv_at hl 0 rfl) ?_
      refine va_get (D := D) (ci := 6) (v := .ref (b 8)) (C := RX6) (T := TX6) (N := 23) hx hb hts hiX60 hown hK.1 hP 0 rfl rfl 11 (by decide) f3 (fun _ h9 => h9) rfl dX6_drop_52 ?_
      refine lv_iload_n hx hb dX6_drop_55 rfl (lv_at hl 2 rfl) ?_
      refine lv_aload_n hx hb dX6_drop_56 rfl (lv_at hl 0 rfl) ?_
      refine va_get (D := D) (ci := 6) (v := .ref (b 8)) (C := RX6) (T := TX6) (N := 23) hx hb hts hiX60 hown hK.1 hP 0 rfl rfl 11 (by decide) f3 (fun _ h9 => h9) rfl dX6_drop_57 ?_
      refine lv_iload_n hx hb dX6_drop_60 rfl (lv_at hl 2 rfl) ?_
      refine lv_iconst (v := 1) hx hb dX6_drop_61 (by decide) ?_
      refine lv_iadd hx hb dX6_drop_62 ?_
      refine x_tp (y := nI (j + i + 1)) (nI_1 (j + i)) ?_
      refine x_iald hx hb hK hP 8 0 rfl rfl (k := (j + i + 1)) (by omega) (by decide) dX6_drop_63 ?_
      refine x_iast hx hb hK hP hD hS 8 0 rfl rfl (k := (j + i)) (by omega) (by decide) dX6_drop_64 (fun H locs hP hD hS => ?_)
      have hP : va_P D vwCl (mW b cA (va_up u 0 0) (n - 1) m (va_up (va_up (va_up (va_up (va_up (va_up (va_up (va_up a 7 (rDr (a 7) j i)) 8 (rDr (a 8) j i)) 9 (rDr (a 9) j i)) 10 (rDr (a 10) j i)) 11 (rDr (a 11) j i)) 12 (rDr (a 12) j i)) 7 (upd (rDr (a 7) j i) (j + i) ((rDr (a 7) j i) (j + i + 1)))) 8 (upd (rDr (a 8) j i) (j + i) ((rDr (a 8) j i) (j + i + 1))))) H := hP
      have hD : va_D (va_A (mW b cA u n m a) sz) (mW b cA (va_up u 0 0) (n - 1) m (va_up (va_up (va_up (va_up (va_up (va_up (va_up (va_up a 7 (rDr (a 7) j i)) 8 (rDr (a 8) j i)) 9 (rDr (a 9) j i)) 10 (rDr (a 10) j i)) 11 (rDr (a 11) j i)) 12 (rDr (a 12) j i)) 7 (upd (rDr (a 7) j i) (j + i) ((rDr (a 7) j i) (j + i + 1)))) 8 (upd (rDr (a 8) j i) (j + i) ((rDr (a 8) j i) (j + i + 1))))) := hD
      refine lv_aload_n hx hb dX6_drop_65 rfl (lv_at hl 0 rfl) ?_
      refine va_get (D := D) (ci := 6) (v := .ref (b 9)) (C := RX6) (T := TX6) (N := 23) hx hb hts hiX60 hown hK.1 hP 0 rfl rfl 12 (by decide) f4 (fun _ h9 => h9) rfl dX6_drop_66 ?_
      refine lv_iload_n hx hb dX6_drop_69 rfl (lv_at hl 2 rfl) ?_
      refine lv_aload_n hx hb dX6_drop_70 rfl (lv_at hl 0 rfl) ?_
      refine va_get (D := D) (ci := 6) (v := .ref (b 9)) (C := RX6) (T := TX6) (N := 23) hx hb hts hiX60 hown hK.1 hP 0 rfl rfl 12 (by decide) f4 (fun _ h9 => h9) rfl dX6_drop_71 ?_
      refine lv_iload_n hx hb dX6_drop_74 rfl (lv_at hl 2 rfl) ?_
      refine lv_iconst (v := 1) hx hb dX6_drop_75 (by decide) ?_
      refine lv_iadd hx hb dX6_drop_76 ?_
      refine x_tp (y := nI (j + i + 1)) (nI_1 (j + i)) ?_
      refine x_iald hx hb hK hP 9 0 rfl rfl (k := (j + i + 1)) (by omega) (by decide) dX6_drop_77 ?_
      refine x_iast hx hb hK hP hD hS 9 0 rfl rfl (k := (j + i)) (by omega) (by decide) dX6_drop_78 (fun H locs hP hD hS => ?_)
      have hP : va_P D vwCl (mW b cA (va_up u 0 0) (n - 1) m (va_up (va_up (va_up (va_up (va_up (va_up (va_up (va_up (va_up a 7 (rDr (a 7) j i)) 8 (rDr (a 8) j i)) 9 (rDr (a 9) j i)) 10 (rDr (a 10) j i)) 11 (rDr (a 11) j i)) 12 (rDr (a 12) j i)) 7 (upd (rDr (a 7) j i) (j + i) ((rDr (a 7) j i) (j + i + 1)))) 8 (upd (rDr (a 8) j i) (j + i) ((rDr (a 8) j i) (j + i + 1)))) 9 (upd (rDr (a 9) j i) (j + i) ((rDr (a 9) j i) (j + i + 1))))) H := hP
      have hD : va_D (va_A (mW b cA u n m a) sz) (mW b cA (va_up u 0 0) (n - 1) m (va_up (va_up (va_up (va_up (va_up (va_up (va_up (va_up (va_up a 7 (rDr (a 7) j i)) 8 (rDr (a 8) j i)) 9 (rDr (a 9) j i)) 10 (rDr (a 10) j i)) 11 (rDr (a 11) j i)) 12 (rDr (a 12) j i)) 7 (upd (rDr (a 7) j i) (j + i) ((rDr (a 7) j i) (j + i + 1)))) 8 (upd (rDr (a 8) j i) (j + i) ((rDr (a 8) j i) (j + i + 1)))) 9 (upd (rDr (a 9) j i) (j + i) ((rDr (a 9) j i) (j + i + 1))))) := hD
      refine lv_aload_n hx hb dX6_drop_79 rfl (lv_at hl 0 rfl) ?_
      refine va_get (D := D) (ci := 6) (v := .ref (b 10)) (C := RX6) (T := TX6) (N := 23) hx hb hts hiX60 hown hK.1 hP 0 rfl rfl 13 (by decide) f5 (fun _ h9 => h9) rfl dX6_drop_80 ?_
      refine lv_iload_n hx hb dX6_drop_83 rfl (lv_at hl 2 rfl) ?_
      refine lv_aload_n hx hb dX6_drop_84 rfl (lv_at hl 0 rfl) ?_
      refine va_get (D := D) (ci := 6) (v := .ref (b 10)) (C := RX6) (T := TX6) (N := 23) hx hb hts hiX60 hown hK.1 hP 0 rfl rfl 13 (by decide) f5 (fun _ h9 => h9) rfl dX6_drop_85 ?_
      refine lv_iload_n hx hb dX6_drop_88 rfl (lv_at hl 2 rfl) ?_
      refine lv_iconst (v := 1) hx hb dX6_drop_89 (by decide) ?_
      refine lv_iadd hx hb dX6_drop_90 ?_
      refine x_tp (y := nI (j + i + 1)) (nI_1 (j + i)) ?_
      refine x_iald hx hb hK hP 10 0 rfl rfl (k := (j + i + 1)) (by omega) (by decide) dX6_drop_91 ?_
      refine x_iast hx hb hK hP hD hS 10 0 rfl rfl (k := (j + i)) (by omega) (by decide) dX6_drop_92 (fun H locs hP hD hS => ?_)
      have hP : va_P D vwCl (mW b cA (va_up u 0 0) (n - 1) m (va_up (va_up (va_up (va_up (va_up (va_up (va_up (va_up (va_up (va_up a 7 (rDr (a 7) j i)) 8 (rDr (a 8) j i)) 9 (rDr (a 9) j i)) 10 (rDr (a 10) j i)) 11 (rDr (a 11) j i)) 12 (rDr (a 12) j i)) 7 (upd (rDr (a 7) j i) (j + i) ((rDr (a 7) j i) (j + i + 1)))) 8 (upd (rDr (a 8) j i) (j + i) ((rDr (a 8) j i) (j + i + 1)))) 9 (upd (rDr (a 9) j i) (j + i) ((rDr (a 9) j i) (j + i + 1)))) 10 (upd (rDr (a 10) j i) (j + i) ((rDr (a 10) j i) (j + i + 1))))) H := hP
      have hD : va_D (va_A (mW b cA u n m a) sz) (mW b cA (va_up u 0 0) (n - 1) m (va_up (va_up (va_up (va_up (va_up (va_up (va_up (va_up (va_up (va_up a 7 (rDr (a 7) j i)) 8 (rDr (a 8) j i)) 9 (rDr (a 9) j i)) 10 (rDr (a 10) j i)) 11 (rDr (a 11) j i)) 12 (rDr (a 12) j i)) 7 (upd (rDr (a 7) j i) (j + i) ((rDr (a 7) j i) (j + i + 1)))) 8 (upd (rDr (a 8) j i) (j + i) ((rDr (a 8) j i) (j + i + 1)))) 9 (upd (rDr (a 9) j i) (j + i) ((rDr (a 9) j i) (j + i + 1)))) 10 (upd (rDr (a 10) j i) (j + i) ((rDr (a 10) j i) (j + i + 1))))) := hD
      refine lv_aload_n hx hb dX6_drop_93 rfl (lv_at hl 0 rfl) ?_
      refine va_get (D := D) (ci := 6) (v := .ref (b 11)) (C := RX6) (T := TX6) (N := 23) hx hb hts hiX60 hown hK.1 hP 0 rfl rfl 14 (by decide) f6 (fun _ h9 => h9) rfl dX6_drop_94 ?_
      refine lv_iload_n hx hb dX6_drop_97 rfl (lv_at hl 2 rfl) ?_
      refine lv_aload_n hx hb dX6_drop_98 rfl (lv_at hl 0 rfl) ?_
      refine va_get (D := D) (ci := 6) (v := .ref (b 11)) (C := RX6) (T := TX6) (N := 23) hx hb hts hiX60 hown hK.1 hP 0 rfl rfl 14 (by decide) f6 (fun _ h9 => h9) rfl dX6_drop_99 ?_
      refine lv_iload_n hx hb dX6_drop_102 rfl (lv_at hl 2 rfl) ?_
      refine lv_iconst (v := 1) hx hb dX6_drop_103 (by decide) ?_
      refine lv_iadd hx hb dX6_drop_104 ?_
      refine x_tp (y := nI (j + i + 1)) (nI_1 (j + i)) ?_
      refine x_iald hx hb hK hP 11 0 rfl rfl (k := (j + i + 1)) (by omega) (by decide) dX6_drop_105 ?_
      refine x_iast hx hb hK hP hD hS 11 0 rfl rfl (k := (j + i)) (by omega) (by decide) dX6_drop_106 (fun H locs hP hD hS => ?_)
      have hP : va_P D vwCl (mW b cA (va_up u 0 0) (n - 1) m (va_up (va_up (va_up (va_up (va_up (va_up (va_up (va_up (va_up (va_up (va_up a 7 (rDr (a 7) j i)) 8 (rDr (a 8) j i)) 9 (rDr (a 9) j i)) 10 (rDr (a 10) j i)) 11 (rDr (a 11) j i)) 12 (rDr (a 12) j i)) 7 (upd (rDr (a 7) j i) (j + i) ((rDr (a 7) j i) (j + i + 1)))) 8 (upd (rDr (a 8) j i) (j + i) ((rDr (a 8) j i) (j + i + 1)))) 9 (upd (rDr (a 9) j i) (j + i) ((rDr (a 9) j i) (j + i + 1)))) 10 (upd (rDr (a 10) j i) (j + i) ((rDr (a 10) j i) (j + i + 1)))) 11 (upd (rDr (a 11) j i) (j + i) ((rDr (a 11) j i) (j + i + 1))))) H := hP
      have hD : va_D (va_A (mW b cA u n m a) sz) (mW b cA (va_up u 0 0) (n - 1) m (va_up (va_up (va_up (va_up (va_up (va_up (va_up (va_up (va_up (va_up (va_up a 7 (rDr (a 7) j i)) 8 (rDr (a 8) j i)) 9 (rDr (a 9) j i)) 10 (rDr (a 10) j i)) 11 (rDr (a 11) j i)) 12 (rDr (a 12) j i)) 7 (upd (rDr (a 7) j i) (j + i) ((rDr (a 7) j i) (j + i + 1)))) 8 (upd (rDr (a 8) j i) (j + i) ((rDr (a 8) j i) (j + i + 1)))) 9 (upd (rDr (a 9) j i) (j + i) ((rDr (a 9) j i) (j + i + 1)))) 10 (upd (rDr (a 10) j i) (j + i) ((rDr (a 10) j i) (j + i + 1)))) 11 (upd (rDr (a 11) j i) (j + i) ((rDr (a 11) j i) (j + i + 1))))) := hD
      refine lv_aload_n hx hb dX6_drop_107 rfl (lv_at hl 0 rfl) ?_
      refine va_get (D := D) (ci := 6) (v := .ref (b 12)) (C := RX6) (T := TX6) (N := 23) hx hb hts hiX60 hown hK.1 hP 0 rfl rfl 15 (by decide) f7 (fun _ h9 => h9) rfl dX6_drop_108 ?_
      refine lv_iload_n hx hb dX6_drop_111 rfl (lv_at hl 2 rfl) ?_
      refine lv_aload_n hx hb dX6_drop_112 rfl (lv_at hl 0 rfl) ?_
      refine va_get (D := D) (ci := 6) (v := .ref (b 12)) (C := RX6) (T := TX6) (N := 23) hx hb hts hiX60 hown hK.1 hP 0 rfl rfl 15 (by decide) f7 (fun _ h9 => h9) rfl dX6_drop_113 ?_
      refine lv_iload_n hx hb dX6_drop_116 rfl (lv_at hl 2 rfl) ?_
      refine lv_iconst (v := 1) hx hb dX6_drop_117 (by decide) ?_
      refine lv_iadd hx hb dX6_drop_118 ?_
      refine x_tp (y := nI (j + i + 1)) (nI_1 (j + i)) ?_
      refine x_iald hx hb hK hP 12 0 rfl rfl (k := (j + i + 1)) (by omega) (by decide) dX6_drop_119 ?_
      refine x_iast hx hb hK hP hD hS 12 0 rfl rfl (k := (j + i)) (by omega) (by decide) dX6_drop_120 (fun H locs hP hD hS => ?_)
      have hP : va_P D vwCl (mW b cA (va_up u 0 0) (n - 1) m (va_up (va_up (va_up (va_up (va_up (va_up (va_up (va_up (va_up (va_up (va_up (va_up a 7 (rDr (a 7) j i)) 8 (rDr (a 8) j i)) 9 (rDr (a 9) j i)) 10 (rDr (a 10) j i)) 11 (rDr (a 11) j i)) 12 (rDr (a 12) j i)) 7 (upd (rDr (a 7) j i) (j + i) ((rDr (a 7) j i) (j + i + 1)))) 8 (upd (rDr (a 8) j i) (j + i) ((rDr (a 8) j i) (j + i + 1)))) 9 (upd (rDr (a 9) j i) (j + i) ((rDr (a 9) j i) (j + i + 1)))) 10 (upd (rDr (a 10) j i) (j + i) ((rDr (a 10) j i) (j + i + 1)))) 11 (upd (rDr (a 11) j i) (j + i) ((rDr (a 11) j i) (j + i + 1)))) 12 (upd (rDr (a 12) j i) (j + i) ((rDr (a 12) j i) (j + i + 1))))) H := hP
      have hD : va_D (va_A (mW b cA u n m a) sz) (mW b cA (va_up u 0 0) (n - 1) m (va_up (va_up (va_up (va_up (va_up (va_up (va_up (va_up (va_up (va_up (va_up (va_up a 7 (rDr (a 7) j i)) 8 (rDr (a 8) j i)) 9 (rDr (a 9) j i)) 10 (rDr (a 10) j i)) 11 (rDr (a 11) j i)) 12 (rDr (a 12) j i)) 7 (upd (rDr (a 7) j i) (j + i) ((rDr (a 7) j i) (j + i + 1)))) 8 (upd (rDr (a 8) j i) (j + i) ((rDr (a 8) j i) (j + i + 1)))) 9 (upd (rDr (a 9) j i) (j + i) ((rDr (a 9) j i) (j + i + 1)))) 10 (upd (rDr (a 10) j i) (j + i) ((rDr (a 10) j i) (j + i + 1)))) 11 (upd (rDr (a 11) j i) (j + i) ((rDr (a 11) j i) (j + i + 1)))) 12 (upd (rDr (a 12) j i) (j + i) ((rDr (a 12) j i) (j + i + 1))))) := hD
      have hP : va_P D vwCl (mW b cA (va_up u 0 0) (n - 1) m (va_up (va_up (va_up (va_up (va_up (va_up a 7 (rDr (a 7) j (i + 1))) 8 (rDr (a 8) j (i + 1))) 9 (rDr (a 9) j (i + 1))) 10 (rDr (a 10) j (i + 1))) 11 (rDr (a 11) j (i + 1))) 12 (rDr (a 12) j (i + 1)))) H := hP
      have hD : va_D (va_A (mW b cA u n m a) sz) (mW b cA (va_up u 0 0) (n - 1) m (va_up (va_up (va_up (va_up (va_up (va_up a 7 (rDr (a 7) j (i + 1))) 8 (rDr (a 8) j (i + 1))) 9 (rDr (a 9) j (i + 1))) 10 (rDr (a 10) j (i + 1))) 11 (rDr (a 11) j (i + 1))) 12 (rDr (a 12) j (i + 1)))) := hD
      refine lv_iinc (v := nI (j + i + 1)) (lv' := [(2, .int (nI (j + i + 1))), (0, .ref (b 0)), (1, .int p1)]) hx hb dX6_drop_121 hl (k := 2) rfl (x_inc (j + i)) (by decide) rfl (fun ls hl => ?_)
      refine lv_goto (tgt := 29) hx hb dX6_drop_124 (by decide) ?_
      exact ihi (by omega) () _ _ _ trivial (lv_sub hl [1, 2, 0] rfl) hP hD hS
  · refine lv_sipush (v := (-1001)) hx hb dX6_drop_13 (by decide) ?_
    exact w_iret (S0 := mS) (w1 := mX b cA) (va_up u 0 0, n, m, a) hx hb hr hlk hP hD hS (by rw [mutDrop, if_neg c_10] <;> rfl) dX6_drop_16

set_option maxHeartbeats 4000000 in
set_option maxRecDepth 100000 in
theorem k6_setting (l : Launch) (D : va_G) (b : Nat → Nat) (cA : ClassId) (u : Nat → Int32) (n m : Nat) (a : Nat → Nat → Int32) (sz : Nat) (p1 p2 : Int32) : Met l yX6_setting wsX6_setting ({ frames := 1, cells := 0, slots := 0, locals := 22 }) (wPc D (mW b cA u n m a) [(cA, .int)] sz [.ref (b 0), .int p1, .int p2]) (va_Qi (fun (r : Int32) (x : mS) => (r, x) = mutSet p1 p2 (u 2) (u 3) (va_up u 0 0, n, m, a) (va_up (va_up (va_up u 0 0) 2 p2) 3 (u 3), n, m, a) (va_up (va_up (va_up u 0 0) 2 (u 2)) 3 p2, n, m, a)) (wB D (mW b cA u n m a) sz (mX b cA)) (va_A (mW b cA u n m a) sz)) 0 0 (va_A (mW b cA u n m a) sz) := by
  refine w_head (C := RX6) (cc := cX6_setting) (maxL := 4) (ret := (some .int)) [(0, .ref (b 0)), (1, .int p1), (2, .int p2)] (by decide) rfl rfl (Nat.le_of_ble_eq_true rfl) rfl ?_
  intro p e s mi below meth c hx hb hr hlk hml hown hin hts hP hD hS hA hK ls hl
  have hiX60 : ∀ w ∈ wsX60, w ∈ wsX6_setting := fun w h => List.mem_cons_of_mem _ (List.mem_append_right _ h)
  have f0 := hts (.fieldLink RX6 69 "StaffHeadsModel" "thrown" "I") (List.mem_of_getElem? (i := 1) rfl)
  have f1 := hts (.fieldLink RX6 50 "StaffHeadsModel" "least" "I") (List.mem_of_getElem? (i := 3) rfl)
  have f2 := hts (.fieldLink RX6 46 "StaffHeadsModel" "pad" "I") (List.mem_of_getElem? (i := 2) rfl)
  refine lv_aload_n hx hb dX6_setting_0 rfl (lv_at hl 0 rfl) ?_
  refine lv_iconst (v := 0) hx hb dX6_setting_1 (by decide) ?_
  refine va_put (D := D) (ci := 6) (v := .int 0) (ty := .int) (C := RX6) (T := TX6) (N := 23) hx hb hts hiX60 tyX6 tyX6_ok nmX6 hown hK.1 hP hD hS 0 rfl rfl 0 (by decide) f0 (fun _ h9 => h9) rfl (by decide +kernel) rfl rfl (Nat.le_of_ble_eq_true rfl) dX6_setting_2 (fun H locs hP hD hS => ?_)
  have hP : va_P D vwCl (mW b cA (va_up u 0 0) n m a) H := hP
  have hD : va_D (va_A (mW b cA u n m a) sz) (mW b cA (va_up u 0 0) n m a) := hD
  refine lv_iload_n hx hb dX6_setting_5 rfl (lv_at hl 1 rfl) ?_
  refine lv_iconst (v := 0) hx hb dX6_setting_6 (by decide) ?_
  refine lv_iconst (v := 1) hx hb dX6_setting_7 (by decide) ?_
  refine rcSi (As := [.int p1, .int 0, .int 1]) (rest := []) ⟨hx, hb, hml, hown, hts⟩ (k6_in l p1 0 1) (va_cwS 3 hts gX6_setting_X6_in rfl rfl rfl (by decide +kernel) ⟨Nat.le_of_ble_eq_true rfl, Nat.le_of_ble_eq_true rfl⟩) rfl hl.1 rfl (Nat.le_of_ble_eq_true rfl) dX6_setting_8 ⟨Nat.zero_le _, Nat.zero_le _⟩ ?_
  refine x_ifeq (tgt := 24) hx hb dX6_setting_11 (by decide) (fun (c_11 : ¬ (¬ p1 < 0 ∧ ¬ 1 < p1)) => ?_) (fun (c_11 : ¬ p1 < 0 ∧ ¬ 1 < p1) => ?_)
  · refine lv_sipush (v := (-1002)) hx hb dX6_setting_24 (by decide) ?_
    exact w_iret (S0 := mS) (w1 := mX b cA) (va_up u 0 0, n, m, a) hx hb hr hlk hP hD hS (by rw [mutSet, if_neg (fun h => c_11 h.1)] <;> rfl) dX6_setting_27
  · refine lv_iload_n hx hb dX6_setting_14 rfl (lv_at hl 2 rfl) ?_
    refine lv_iconst (v := 0) hx hb dX6_setting_15 (by decide) ?_
    refine lv_bipush (v := 100) hx hb dX6_setting_16 (by decide) ?_
    refine rcSi (As := [.int p2, .int 0, .int 100]) (rest := []) ⟨hx, hb, hml, hown, hts⟩ (k6_in l p2 0 100) (va_cwS 3 hts gX6_setting_X6_in rfl rfl rfl (by decide +kernel) ⟨Nat.le_of_ble_eq_true rfl, Nat.le_of_ble_eq_true rfl⟩) rfl hl.1 rfl (Nat.le_of_ble_eq_true rfl) dX6_setting_18 ⟨Nat.zero_le _, Nat.zero_le _⟩ ?_
    refine x_ifne (tgt := 28) hx hb dX6_setting_21 (by decide) (fun (c_21 : ¬ p2 < 0 ∧ ¬ 100 < p2) => ?_) (fun (c_21 : ¬ (¬ p2 < 0 ∧ ¬ 100 < p2)) => ?_)
    · refine lv_iload_n hx hb dX6_setting_28 rfl (lv_at hl 1 rfl) ?_
      refine lv_if_ne (tgt := 39) hx hb dX6_setting_29 (by decide) (fun c_29 => ?_) (fun c_29 => ?_)
      · refine lv_aload_n hx hb dX6_setting_39 rfl (lv_at hl 0 rfl) ?_
        refine va_get (D := D) (ci := 6) (v := .int (u 3)) (C := RX6) (T := TX6) (N := 23) hx hb hts hiX60 hown hK.1 hP 0 rfl rfl 17 (by decide) f1 (fun _ h9 => h9) rfl dX6_setting_40 ?_
        refine lv_istore_n (lv' := [(3, .int (u 3)), (0, .ref (b 0)), (1, .int p1), (2, .int p2)]) hx hb dX6_setting_43 rfl hl (by decide) rfl (fun ls hl => ?_)
        refine lv_aload_n hx hb dX6_setting_44 rfl (lv_at hl 1 rfl) ?_
        refine lv_iload_n hx hb dX6_setting_45 rfl (lv_at hl 2 rfl) ?_
        refine lv_if_ne (tgt := 53) hx hb dX6_setting_46 (by decide) (fun c_46 => ?_) (fun c_46 => ?_)
        · refine lv_aload_n hx hb dX6_setting_53 rfl (lv_at hl 1 rfl) ?_
          refine va_get (D := D) (ci := 6) (v := .int (u 2)) (C := RX6) (T := TX6) (N := 23) hx hb hts hiX60 hown hK.1 hP 0 rfl rfl 16 (by decide) f2 (fun _ h9 => h9) rfl dX6_setting_54 ?_
          refine va_put (D := D) (ci := 6) (v := .int (u 2)) (ty := .int) (C := RX6) (T := TX6) (N := 23) hx hb hts hiX60 tyX6 tyX6_ok nmX6 hown hK.1 hP hD hS 0 rfl rfl 16 (by decide) f2 (fun _ h9 => h9) rfl (by decide +kernel) rfl rfl (Nat.le_of_ble_eq_true rfl) dX6_setting_57 (fun H locs hP hD hS => ?_)
          have hP : va_P D vwCl (mW b cA (va_up (va_up u 0 0) 2 (u 2)) n m a) H := hP
          have hD : va_D (va_A (mW b cA u n m a) sz) (mW b cA (va_up (va_up u 0 0) 2 (u 2)) n m a) := hD
          refine lv_aload_n hx hb dX6_setting_60 rfl (lv_at hl 1 rfl) ?_
          refine lv_iload_n hx hb dX6_setting_61 rfl (lv_at hl 2 rfl) ?_
          refine lv_iconst (v := 1) hx hb dX6_setting_62 (by decide) ?_
          refine lv_icmp_ne (tgt := 70) hx hb dX6_setting_63 (by decide) (fun c_63 => ?_) (fun c_63 => ?_)
          · exact absurd ((ok01 c_11).resolve_left c_29) c_63
          · refine lv_iload_n hx hb dX6_setting_66 rfl (lv_at hl 3 rfl) ?_
            refine lv_goto (tgt := 74) hx hb dX6_setting_67 (by decide) ?_
            refine va_put (D := D) (ci := 6) (v := .int p2) (ty := .int) (C := RX6) (T := TX6) (N := 23) hx hb hts hiX60 tyX6 tyX6_ok nmX6 hown hK.1 hP hD hS 0 rfl rfl 17 (by decide) f1 (fun _ h9 => h9) rfl (by decide +kernel) rfl rfl (Nat.le_of_ble_eq_true rfl) dX6_setting_74 (fun H locs hP hD hS => ?_)
            have hP : va_P D vwCl (mW b cA (va_up (va_up (va_up u 0 0) 2 (u 2)) 3 p2) n m a) H := hP
            have hD : va_D (va_A (mW b cA u n m a) sz) (mW b cA (va_up (va_up (va_up u 0 0) 2 (u 2)) 3 p2) n m a) := hD
            refine lv_iload_n hx hb dX6_setting_77 rfl (lv_at hl 0 rfl) ?_
            exact w_iret (S0 := mS) (w1 := mX b cA) (va_up (va_up (va_up u 0 0) 2 (u 2)) 3 p2, n, m, a) hx hb hr hlk hP hD hS (by rw [mutSet, if_pos ⟨c_11, c_21⟩, if_neg c_29] <;> rfl) dX6_setting_78
        · exact absurd c_46 c_29
      · refine lv_aload_n hx hb dX6_setting_32 rfl (lv_at hl 0 rfl) ?_
        refine va_get (D := D) (ci := 6) (v := .int (u 2)) (C := RX6) (T := TX6) (N := 23) hx hb hts hiX60 hown hK.1 hP 0 rfl rfl 16 (by decide) f2 (fun _ h9 => h9) rfl dX6_setting_33 ?_
        refine lv_goto (tgt := 43) hx hb dX6_setting_36 (by decide) ?_
        refine lv_istore_n (lv' := [(3, .int (u 2)), (0, .ref (b 0)), (1, .int p1), (2, .int p2)]) hx hb dX6_setting_43 rfl hl (by decide) rfl (fun ls hl => ?_)
        refine lv_aload_n hx hb dX6_setting_44 rfl (lv_at hl 1 rfl) ?_
        refine lv_iload_n hx hb dX6_setting_45 rfl (lv_at hl 2 rfl) ?_
        refine lv_if_ne (tgt := 53) hx hb dX6_setting_46 (by decide) (fun c_46 => ?_) (fun c_46 => ?_)
        · exact absurd c_29 c_46
        · refine lv_iload_n hx hb dX6_setting_49 rfl (lv_at hl 3 rfl) ?_
          refine lv_goto (tgt := 57) hx hb dX6_setting_50 (by decide) ?_
          refine va_put (D := D) (ci := 6) (v := .int p2) (ty := .int) (C := RX6) (T := TX6) (N := 23) hx hb hts hiX60 tyX6 tyX6_ok nmX6 hown hK.1 hP hD hS 0 rfl rfl 16 (by decide) f2 (fun _ h9 => h9) rfl (by decide +kernel) rfl rfl (Nat.le_of_ble_eq_true rfl) dX6_setting_57 (fun H locs hP hD hS => ?_)
          have hP : va_P D vwCl (mW b cA (va_up (va_up u 0 0) 2 p2) n m a) H := hP
          have hD : va_D (va_A (mW b cA u n m a) sz) (mW b cA (va_up (va_up u 0 0) 2 p2) n m a) := hD
          refine lv_aload_n hx hb dX6_setting_60 rfl (lv_at hl 1 rfl) ?_
          refine lv_iload_n hx hb dX6_setting_61 rfl (lv_at hl 2 rfl) ?_
          refine lv_iconst (v := 1) hx hb dX6_setting_62 (by decide) ?_
          refine lv_icmp_ne (tgt := 70) hx hb dX6_setting_63 (by decide) (fun c_63 => ?_) (fun c_63 => ?_)
          · refine lv_aload_n hx hb dX6_setting_70 rfl (lv_at hl 1 rfl) ?_
            refine va_get (D := D) (ci := 6) (v := .int (u 3)) (C := RX6) (T := TX6) (N := 23) hx hb hts hiX60 hown hK.1 hP 0 rfl rfl 17 (by decide) f1 (fun _ h9 => h9) rfl dX6_setting_71 ?_
            refine va_put (D := D) (ci := 6) (v := .int (u 3)) (ty := .int) (C := RX6) (T := TX6) (N := 23) hx hb hts hiX60 tyX6 tyX6_ok nmX6 hown hK.1 hP hD hS 0 rfl rfl 17 (by decide) f1 (fun _ h9 => h9) rfl (by decide +kernel) rfl rfl (Nat.le_of_ble_eq_true rfl) dX6_setting_74 (fun H locs hP hD hS => ?_)
            have hP : va_P D vwCl (mW b cA (va_up (va_up (va_up u 0 0) 2 p2) 3 (u 3)) n m a) H := hP
            have hD : va_D (va_A (mW b cA u n m a) sz) (mW b cA (va_up (va_up (va_up u 0 0) 2 p2) 3 (u 3)) n m a) := hD
            refine lv_iload_n hx hb dX6_setting_77 rfl (lv_at hl 0 rfl) ?_
            exact w_iret (S0 := mS) (w1 := mX b cA) (va_up (va_up (va_up u 0 0) 2 p2) 3 (u 3), n, m, a) hx hb hr hlk hP hD hS (by rw [mutSet, if_pos ⟨c_11, c_21⟩, if_pos c_29] <;> rfl) dX6_setting_78
          · exact absurd (c_29.symm.trans c_63) (by decide)
    · refine lv_sipush (v := (-1002)) hx hb dX6_setting_24 (by decide) ?_
      exact w_iret (S0 := mS) (w1 := mX b cA) (va_up u 0 0, n, m, a) hx hb hr hlk hP hD hS (by rw [mutSet, if_neg (fun h => c_21 h.2)] <;> rfl) dX6_setting_27

set_option maxHeartbeats 4000000 in
set_option maxRecDepth 100000 in
theorem k6_hides (l : Launch) (D : va_G) (b : Nat → Nat) (cA : ClassId) (u : Nat → Int32) (n m : Nat) (a : Nat → Nat → Int32) (sz : Nat) (on : Prop) : Met l yX6_hides wsX6_hides ({ frames := 0, cells := 0, slots := 0, locals := 0 }) (wPc D (mW b cA u n m a) [(cA, .int)] sz [.ref (b 0), .int (bv on)]) (va_Qi (fun (r : Int32) (x : mS) => (r, x) = (if u 4 = 0 then 0 else 1, (va_up (va_up u 0 0) 4 (bv on), n, m, a))) (wB D (mW b cA u n m a) sz (mX b cA)) (va_A (mW b cA u n m a) sz)) 0 0 (va_A (mW b cA u n m a) sz) := by
  refine w_head (C := RX6) (cc := cX6_hides) (maxL := 3) (ret := (some .int)) [(0, .ref (b 0)), (1, .int (bv on))] (by decide) rfl rfl (Nat.le_of_ble_eq_true rfl) rfl ?_
  intro p e s mi below meth c hx hb hr hlk hml hown hin hts hP hD hS hA hK ls hl
  have hiX60 : ∀ w ∈ wsX60, w ∈ wsX6_hides := fun w h => List.mem_cons_of_mem _ (List.mem_append_right _ h)
  have f0 := hts (.fieldLink RX6 69 "StaffHeadsModel" "thrown" "I") (List.mem_of_getElem? (i := 1) rfl)
  have f1 := hts (.fieldLink RX6 151 "StaffHeadsModel" "hiding" "Z") (List.mem_of_getElem? (i := 2) rfl)
  refine lv_aload_n hx hb dX6_hides_0 rfl (lv_at hl 0 rfl) ?_
  refine lv_iconst (v := 0) hx hb dX6_hides_1 (by decide) ?_
  refine va_put (D := D) (ci := 6) (v := .int 0) (ty := .int) (C := RX6) (T := TX6) (N := 23) hx hb hts hiX60 tyX6 tyX6_ok nmX6 hown hK.1 hP hD hS 0 rfl rfl 0 (by decide) f0 (fun _ h9 => h9) rfl (by decide +kernel) rfl rfl (Nat.le_of_ble_eq_true rfl) dX6_hides_2 (fun H locs hP hD hS => ?_)
  have hP : va_P D vwCl (mW b cA (va_up u 0 0) n m a) H := hP
  have hD : va_D (va_A (mW b cA u n m a) sz) (mW b cA (va_up u 0 0) n m a) := hD
  refine x_joinW (D := D) (A := (va_A (mW b cA u n m a) sz)) (H0 := s.heap) 3 [(0, .ref (b 0)), (1, .int (bv on))] (mW b cA (va_up u 0 0) n m a) 17 [.int (if u 4 = 0 then 0 else 1)] ?_ (fun j_17 => ?_)
  · intro ls H locs hl hP hD hS
    refine lv_istore_n (lv' := [(2, .int (if u 4 = 0 then 0 else 1)), (0, .ref (b 0)), (1, .int (bv on))]) hx hb dX6_hides_17 rfl hl (by decide) rfl (fun ls hl => ?_)
    refine lv_aload_n hx hb dX6_hides_18 rfl (lv_at hl 1 rfl) ?_
    refine lv_iload_n hx hb dX6_hides_19 rfl (lv_at hl 2 rfl) ?_
    refine va_put (D := D) (ci := 6) (v := .int (bv on)) (ty := .boolean) (C := RX6) (T := TX6) (N := 23) hx hb hts hiX60 tyX6 tyX6_ok nmX6 hown hK.1 hP hD hS 0 rfl rfl 18 (by decide) f1 (fun _ h9 => h9) rfl (by decide +kernel) bv_nar bv_fits (Nat.le_of_ble_eq_true rfl) dX6_hides_20 (fun H locs hP hD hS => ?_)
    have hP : va_P D vwCl (mW b cA (va_up (va_up u 0 0) 4 (bv on)) n m a) H := hP
    have hD : va_D (va_A (mW b cA u n m a) sz) (mW b cA (va_up (va_up u 0 0) 4 (bv on)) n m a) := hD
    refine lv_iload_n hx hb dX6_hides_23 rfl (lv_at hl 0 rfl) ?_
    exact w_iret (S0 := mS) (w1 := mX b cA) (va_up (va_up u 0 0) 4 (bv on), n, m, a) hx hb hr hlk hP hD hS rfl dX6_hides_24
  refine lv_aload_n hx hb dX6_hides_5 rfl (lv_at hl 0 rfl) ?_
  refine va_get (D := D) (ci := 6) (v := .int (u 4)) (C := RX6) (T := TX6) (N := 23) hx hb hts hiX60 hown hK.1 hP 0 rfl rfl 18 (by decide) f1 (fun _ h9 => h9) rfl dX6_hides_6 ?_
  refine lv_if_eq (tgt := 16) hx hb dX6_hides_9 (by decide) (fun c_9 => ?_) (fun c_9 => ?_)
  · refine lv_iconst (v := 0) hx hb dX6_hides_16 (by decide) ?_
    refine x_tp (y := if u 4 = 0 then 0 else 1) (by rw [if_pos c_9]) ?_
    exact j_17 _ _ _ (lv_sub hl [0, 1] rfl) hP hD hS
  · refine lv_iconst (v := 1) hx hb dX6_hides_12 (by decide) ?_
    refine lv_goto (tgt := 17) hx hb dX6_hides_13 (by decide) ?_
    refine x_tp (y := if u 4 = 0 then 0 else 1) (by rw [if_neg c_9]) ?_
    exact j_17 _ _ _ (lv_sub hl [0, 1] rfl) hP hD hS

set_option maxHeartbeats 4000000 in
set_option maxRecDepth 100000 in
theorem k6_thrown (l : Launch) (D : va_G) (b : Nat → Nat) (cA : ClassId) (u : Nat → Int32) (n m : Nat) (a : Nat → Nat → Int32) : Met l yX6_thrown wsX6_thrown ({ frames := 0, cells := 0, slots := 0, locals := 0 }) (rPc D (mW b cA u n m a) [(cA, .int)] [.ref (b 0)]) (vp_Si (fun r => r = u 0)) 0 0 (fun _ => False) := by
  refine r_head (C := RX6) (cc := cX6_thrown) (maxL := 1) (ret := (some .int)) [(0, .ref (b 0))] (by decide) rfl rfl (Nat.le_of_ble_eq_true rfl) rfl ?_
  intro p e s mi below meth c hx hb hr hlk hml hown hts hP hK ls hl
  have hiX60 : ∀ w ∈ wsX60, w ∈ wsX6_thrown := fun w h => List.mem_cons_of_mem _ (List.mem_append_right _ h)
  have f0 := hts (.fieldLink RX6 69 "StaffHeadsModel" "thrown" "I") (List.mem_of_getElem? (i := 1) rfl)
  refine lv_aload_n hx hb dX6_thrown_0 rfl (lv_at hl 0 rfl) ?_
  refine va_get (D := D) (ci := 6) (v := .int (u 0)) (C := RX6) (T := TX6) (N := 23) hx hb hts hiX60 hown hK.1 hP 0 rfl rfl 0 (by decide) f0 (fun _ h9 => h9) rfl dX6_thrown_1 ?_
  exact r_iret hx hb hr hlk (rfl) dX6_thrown_4

set_option maxHeartbeats 4000000 in
set_option maxRecDepth 100000 in
theorem k6_about (l : Launch) (D : va_G) (b : Nat → Nat) (cA : ClassId) (u : Nat → Int32) (n m : Nat) (a : Nat → Nat → Int32) (sz : Nat) (p1 : Int32) (hn : n ≤ 60) : Met l yX6_about wsX6_about ({ frames := 1, cells := 0, slots := 0, locals := 23 }) (wPc D (mW b cA u n m a) [(cA, .int)] sz [.ref (b 0), .int p1]) (va_Qi (fun (r9 : Int32) (x : mS) => r9 = (if p1 = 0 then nI n else if p1 = 1 then nI m else if p1 = 2 then nI (rShown (a 7) (u 4) n 4) else -1002) ∧ mQ u n m a 0 x) (wB D (mW b cA u n m a) sz (mX b cA)) (va_A (mW b cA u n m a) sz)) 0 0 (va_A (mW b cA u n m a) sz) := by
  refine w_head (C := RX6) (cc := cX6_about) (maxL := 4) (ret := (some .int)) [(0, .ref (b 0)), (1, .int p1)] (by decide) rfl rfl (Nat.le_of_ble_eq_true rfl) rfl ?_
  intro p e s mi below meth c hx hb hr hlk hml hown hin hts hP hD hS hA hK ls hl
  have hiX60 : ∀ w ∈ wsX60, w ∈ wsX6_about := fun w h => List.mem_cons_of_mem _ (List.mem_append_right _ h)
  have f0 := hts (.fieldLink RX6 69 "StaffHeadsModel" "thrown" "I") (List.mem_of_getElem? (i := 1) rfl)
  have f1 := hts (.fieldLink RX6 83 "StaffHeadsModel" "shifts" "I") (List.mem_of_getElem? (i := 3) rfl)
  have f2 := hts (.fieldLink RX6 76 "StaffHeadsModel" "notes" "I") (List.mem_of_getElem? (i := 2) rfl)
  refine lv_aload_n hx hb dX6_about_0 rfl (lv_at hl 0 rfl) ?_
  refine lv_iconst (v := 0) hx hb dX6_about_1 (by decide) ?_
  refine va_put (D := D) (ci := 6) (v := .int 0) (ty := .int) (C := RX6) (T := TX6) (N := 23) hx hb hts hiX60 tyX6 tyX6_ok nmX6 hown hK.1 hP hD hS 0 rfl rfl 0 (by decide) f0 (fun _ h9 => h9) rfl (by decide +kernel) rfl rfl (Nat.le_of_ble_eq_true rfl) dX6_about_2 (fun H locs hP hD hS => ?_)
  have hP : va_P D vwCl (mW b cA (va_up u 0 0) n m a) H := hP
  have hD : va_D (va_A (mW b cA u n m a) sz) (mW b cA (va_up u 0 0) n m a) := hD
  refine lv_iconst (v := 0) hx hb dX6_about_5 (by decide) ?_
  refine x_tp (y := nI (rShown (a 7) (u 4) n 0)) (show (0 : Int32) = nI 0 from rfl) ?_
  refine lv_istore_n (lv' := [(2, .int (nI (rShown (a 7) (u 4) n 0))), (0, .ref (b 0)), (1, .int p1)]) hx hb dX6_about_6 rfl hl (by decide) rfl (fun ls hl => ?_)
  refine lv_iconst (v := 0) hx hb dX6_about_7 (by decide) ?_
  refine x_tp (y := nI 0) nI_0.symm ?_
  refine lv_istore_n (lv' := [(3, .int (nI 0)), (2, .int (nI (rShown (a 7) (u 4) n 0))), (0, .ref (b 0)), (1, .int p1)]) hx hb dX6_about_8 rfl hl (by decide) rfl (fun ls hl => ?_)
  refine lpR (G := fun ls => W p l e _ s mi _ below meth c _ _ _ _ _ (F0 mi 9 ls [])) 4 4 (fun k (_ : Unit) => [(0, .ref (b 0)), (1, .int p1), (2, .int (nI (rShown (a 7) (u 4) n k))), (3, .int (nI k))]) (fun _ _ => True) ?_ 0 () (Nat.zero_le _) trivial (lv_sub hl [2, 3, 1, 0] rfl)
  clear hl ls
  intro k gu hk hkI ls hl ihk
  refine lv_iload_n hx hb dX6_about_9 rfl (lv_at hl 3 rfl) ?_
  refine lv_iconst (v := 4) hx hb dX6_about_10 (by decide) ?_
  refine x_tp (y := nI 4) (show (4 : Int32) = nI 4 from rfl) ?_
  refine x_nge (tgt := 36) hx hb dX6_about_11 (by decide) (by omega) (by omega) (fun c_11 => ?_) (fun c_11 => ?_)
  · obtain rfl : 4 = k := by omega
    refine lv_iload_n hx hb dX6_about_36 rfl (lv_at hl 1 rfl) ?_
    refine lv_if_ne (tgt := 47) hx hb dX6_about_37 (by decide) (fun c_37 => ?_) (fun c_37 => ?_)
    · refine lv_iload_n hx hb dX6_about_47 rfl (lv_at hl 1 rfl) ?_
      refine lv_iconst (v := 1) hx hb dX6_about_48 (by decide) ?_
      refine lv_icmp_ne (tgt := 59) hx hb dX6_about_49 (by decide) (fun c_49 => ?_) (fun c_49 => ?_)
      · refine lv_iload_n hx hb dX6_about_59 rfl (lv_at hl 1 rfl) ?_
        refine lv_iconst (v := 2) hx hb dX6_about_60 (by decide) ?_
        refine lv_icmp_ne (tgt := 68) hx hb dX6_about_61 (by decide) (fun c_61 => ?_) (fun c_61 => ?_)
        · refine lv_sipush (v := (-1002)) hx hb dX6_about_68 (by decide) ?_
          exact w_iret (S0 := mS) (w1 := mX b cA) (va_up u 0 0, n, m, a) hx hb hr hlk hP hD hS ⟨(by rw [if_neg c_37, if_neg c_49, if_neg c_61]), _, rfl, fun i hi => rfl⟩ dX6_about_71
        · refine lv_iload_n hx hb dX6_about_64 rfl (lv_at hl 2 rfl) ?_
          refine lv_goto (tgt := 71) hx hb dX6_about_65 (by decide) ?_
          exact w_iret (S0 := mS) (w1 := mX b cA) (va_up u 0 0, n, m, a) hx hb hr hlk hP hD hS ⟨(by rw [if_neg c_37, if_neg c_49, if_pos c_61]), _, rfl, fun i hi => rfl⟩ dX6_about_71
      · refine lv_aload_n hx hb dX6_about_52 rfl (lv_at hl 0 rfl) ?_
        refine va_get (D := D) (ci := 6) (v := .int (nI m)) (C := RX6) (T := TX6) (N := 23) hx hb hts hiX60 hown hK.1 hP 0 rfl rfl 4 (by decide) f1 (fun _ h9 => h9) rfl dX6_about_53 ?_
        refine lv_goto (tgt := 71) hx hb dX6_about_56 (by decide) ?_
        exact w_iret (S0 := mS) (w1 := mX b cA) (va_up u 0 0, n, m, a) hx hb hr hlk hP hD hS ⟨(by rw [if_neg c_37, if_pos c_49]), _, rfl, fun i hi => rfl⟩ dX6_about_71
    · refine lv_aload_n hx hb dX6_about_40 rfl (lv_at hl 0 rfl) ?_
      refine va_get (D := D) (ci := 6) (v := .int (nI n)) (C := RX6) (T := TX6) (N := 23) hx hb hts hiX60 hown hK.1 hP 0 rfl rfl 9 (by decide) f2 (fun _ h9 => h9) rfl dX6_about_41 ?_
      refine lv_goto (tgt := 71) hx hb dX6_about_44 (by decide) ?_
      exact w_iret (S0 := mS) (w1 := mX b cA) (va_up u 0 0, n, m, a) hx hb hr hlk hP hD hS ⟨(by rw [if_pos c_37]), _, rfl, fun i hi => rfl⟩ dX6_about_71
  · refine lv_iload_n hx hb dX6_about_14 rfl (lv_at hl 2 rfl) ?_
    refine lv_aload_n hx hb dX6_about_15 rfl (lv_at hl 0 rfl) ?_
    refine lv_iload_n hx hb dX6_about_16 rfl (lv_at hl 3 rfl) ?_
    refine rcVi (As := [.int (nI k)]) (rest := [.int (nI (rShown (a 7) (u 4) n k))]) ⟨hx, hb, hml, hown, hts⟩ (k6_isHidden l D b cA (va_up u 0 0) n m a (nI k) (by omega)) (cwV 1 hts gX6_about_X6_isHidden rfl rfl rfl (by decide +kernel) ⟨Nat.le_of_ble_eq_true rfl, Nat.le_of_ble_eq_true rfl⟩) (va_recv hK.1 hP (ci := 6) (q0 := 0) rfl rfl) hP hK rfl hl.1 rfl (Nat.le_of_ble_eq_true rfl) dX6_about_17 ⟨Nat.zero_le _, Nat.zero_le _⟩ ?_
    refine x_ifeq (tgt := 27) hx hb dX6_about_20 (by decide) (fun (c_20 : ¬ (rHidA (a 7) (u 4) (nI k) n)) => ?_) (fun (c_20 : rHidA (a 7) (u 4) (nI k) n) => ?_)
    · refine lv_iconst (v := 1) hx hb dX6_about_27 (by decide) ?_
      refine lv_iadd hx hb dX6_about_28 ?_
      refine x_tp (y := nI (rShown (a 7) (u 4) n (k + 1))) (by rw [rShown, if_neg c_20]; exact nI_1 _) ?_
      refine lv_istore_n (lv' := [(2, .int (nI (rShown (a 7) (u 4) n (k + 1)))), (0, .ref (b 0)), (1, .int p1), (3, .int (nI k))]) hx hb dX6_about_29 rfl hl (by decide) rfl (fun ls hl => ?_)
      refine lv_iinc (v := nI (k + 1)) (lv' := [(3, .int (nI (k + 1))), (2, .int (nI (rShown (a 7) (u 4) n (k + 1)))), (0, .ref (b 0)), (1, .int p1)]) hx hb dX6_about_30 hl (k := 3) rfl (x_inc k) (by decide) rfl (fun ls hl => ?_)
      refine lv_goto (tgt := 9) hx hb dX6_about_33 (by decide) ?_
      exact ihk (by omega) () _ trivial (lv_sub hl [2, 3, 1, 0] rfl)
    · refine lv_iconst (v := 0) hx hb dX6_about_23 (by decide) ?_
      refine lv_goto (tgt := 28) hx hb dX6_about_24 (by decide) ?_
      refine lv_iadd hx hb dX6_about_28 ?_
      refine x_tp (y := nI (rShown (a 7) (u 4) n (k + 1))) (by rw [rShown, if_pos c_20]; exact Int32.add_zero _) ?_
      refine lv_istore_n (lv' := [(2, .int (nI (rShown (a 7) (u 4) n (k + 1)))), (0, .ref (b 0)), (1, .int p1), (3, .int (nI k))]) hx hb dX6_about_29 rfl hl (by decide) rfl (fun ls hl => ?_)
      refine lv_iinc (v := nI (k + 1)) (lv' := [(3, .int (nI (k + 1))), (2, .int (nI (rShown (a 7) (u 4) n (k + 1)))), (0, .ref (b 0)), (1, .int p1)]) hx hb dX6_about_30 hl (k := 3) rfl (x_inc k) (by decide) rfl (fun ls hl => ?_)
      refine lv_goto (tgt := 9) hx hb dX6_about_33 (by decide) ?_
      exact ihk (by omega) () _ trivial (lv_sub hl [2, 3, 1, 0] rfl)

set_option maxHeartbeats 4000000 in
set_option maxRecDepth 100000 in
theorem k6_shared (l : Launch) (D : va_G) (b : Nat → Nat) (cA : ClassId) (u : Nat → Int32) (n m : Nat) (a : Nat → Nat → Int32) (sz : Nat) (p1 p2 : Int32) (hn : n ≤ 60) (hm : m ≤ 12) (hs4 : ∀ k, k < n → a 7 k = nI ((a 7 k).toNatClampNeg) ∧ (a 7 k).toNatClampNeg < 4) : Met l yX6_shared wsX6_shared ({ frames := 6, cells := 0, slots := 0, locals := 144 }) (wPc D (mW b cA u n m a) [(cA, .int)] sz [.ref (b 0), .int p1, .int p2]) (va_Qi (fun (r9 : Int32) (x : mS) => r9 = (if okI p1 0 (nI n - 1) ∧ okI p2 0 (nI n - 1) then bv (rSh (a 7) (a 8) (a 9) (SR a m n) (a 12) (a 11) n p1.toNatClampNeg p2.toNatClampNeg) else -1001) ∧ mQ u n m a 0 x) (wB D (mW b cA u n m a) sz (mX b cA)) (va_A (mW b cA u n m a) sz)) 0 0 (va_A (mW b cA u n m a) sz) := by
  refine w_head (C := RX6) (cc := cX6_shared) (maxL := 3) (ret := (some .int)) [(0, .ref (b 0)), (1, .int p1), (2, .int p2)] (by decide) rfl rfl (Nat.le_of_ble_eq_true rfl) rfl ?_
  intro p e s mi below meth c hx hb hr hlk hml hown hin hts hP hD hS hA hK ls hl
  have hiX60 : ∀ w ∈ wsX60, w ∈ wsX6_shared := fun w h => List.mem_cons_of_mem _ (List.mem_append_right _ h)
  have f0 := hts (.fieldLink RX6 69 "StaffHeadsModel" "thrown" "I") (List.mem_of_getElem? (i := 1) rfl)
  refine lv_aload_n hx hb dX6_shared_0 rfl (lv_at hl 0 rfl) ?_
  refine lv_iconst (v := 0) hx hb dX6_shared_1 (by decide) ?_
  refine va_put (D := D) (ci := 6) (v := .int 0) (ty := .int) (C := RX6) (T := TX6) (N := 23) hx hb hts hiX60 tyX6 tyX6_ok nmX6 hown hK.1 hP hD hS 0 rfl rfl 0 (by decide) f0 (fun _ h9 => h9) rfl (by decide +kernel) rfl rfl (Nat.le_of_ble_eq_true rfl) dX6_shared_2 (fun H locs hP hD hS => ?_)
  have hP : va_P D vwCl (mW b cA (va_up u 0 0) n m a) H := hP
  have hD : va_D (va_A (mW b cA u n m a) sz) (mW b cA (va_up u 0 0) n m a) := hD
  refine lv_aload_n hx hb dX6_shared_5 rfl (lv_at hl 0 rfl) ?_
  refine wcVv (S0 := Unit) (wr := []) (As := []) (rest := []) ⟨hx, hb, hml, hown, hts⟩ (k6_reckon l D b cA (va_up u 0 0) n m a H.size (by omega) (by omega) hs4) (cwV 0 hts gX6_shared_X6_reckon rfl rfl rfl (by decide +kernel) ⟨Nat.le_of_ble_eq_true rfl, Nat.le_of_ble_eq_true rfl⟩) (va_recv hK.1 hP (ci := 6) (q0 := 0) rfl rfl) hP hD hS hA hK [0, 1, 2, 3, 4, 5, 6, 7, 8, 9, 10, 11, 12, 13, 14, 15, 16] [] rfl rfl (by decide) (by decide) (by decide) rfl hl.1 rfl (Nat.le_of_ble_eq_true rfl) dX6_shared_6 ⟨Nat.zero_le _, Nat.zero_le _⟩ (fun _ H locs _ hP hD hS => ?_)
  have hP : va_P D vwCl (mW b cA (va_up u 0 0) n m (va_up a 13 (SR a m n))) H := hP
  have hD : va_D (va_A (mW b cA u n m a) sz) (mW b cA (va_up u 0 0) n m (va_up a 13 (SR a m n))) := hD
  refine lv_aload_n hx hb dX6_shared_9 rfl (lv_at hl 0 rfl) ?_
  refine lv_iload_n hx hb dX6_shared_10 rfl (lv_at hl 1 rfl) ?_
  refine rcVi (As := [.int p1]) (rest := []) ⟨hx, hb, hml, hown, hts⟩ (k6_isNote l D b cA (va_up u 0 0) n m (va_up a 13 (SR a m n)) p1 ) (cwV 1 hts gX6_shared_X6_isNote rfl rfl rfl (by decide +kernel) ⟨Nat.le_of_ble_eq_true rfl, Nat.le_of_ble_eq_true rfl⟩) (va_recv hK.1 hP (ci := 6) (q0 := 0) rfl rfl) hP hK rfl hl.1 rfl (Nat.le_of_ble_eq_true rfl) dX6_shared_11 ⟨Nat.zero_le _, Nat.zero_le _⟩ ?_
  refine x_ifeq (tgt := 25) hx hb dX6_shared_14 (by decide) (fun (c_14 : ¬ (¬ p1 < 0 ∧ ¬ nI n - 1 < p1)) => ?_) (fun (c_14 : ¬ p1 < 0 ∧ ¬ nI n - 1 < p1) => ?_)
  · refine lv_sipush (v := (-1001)) hx hb dX6_shared_25 (by decide) ?_
    refine lv_goto (tgt := 45) hx hb dX6_shared_28 (by decide) ?_
    exact w_iret (S0 := mS) (w1 := mX b cA) (va_up u 0 0, n, m, va_up a 13 (SR a m n)) hx hb hr hlk hP hD hS ⟨(by rw [if_neg (fun h => c_14 h.1)]), _, rfl, fun i hi => (by rw [va_up_ne _ _ (by omega)])⟩ dX6_shared_45
  · have hj1 := ok_note hn c_14
    refine lv_aload_n hx hb dX6_shared_17 rfl (lv_at hl 0 rfl) ?_
    refine lv_iload_n hx hb dX6_shared_18 rfl (lv_at hl 2 rfl) ?_
    refine rcVi (As := [.int p2]) (rest := []) ⟨hx, hb, hml, hown, hts⟩ (k6_isNote l D b cA (va_up u 0 0) n m (va_up a 13 (SR a m n)) p2 ) (cwV 1 hts gX6_shared_X6_isNote rfl rfl rfl (by decide +kernel) ⟨Nat.le_of_ble_eq_true rfl, Nat.le_of_ble_eq_true rfl⟩) (va_recv hK.1 hP (ci := 6) (q0 := 0) rfl rfl) hP hK rfl hl.1 rfl (Nat.le_of_ble_eq_true rfl) dX6_shared_19 ⟨Nat.zero_le _, Nat.zero_le _⟩ ?_
    refine x_ifne (tgt := 31) hx hb dX6_shared_22 (by decide) (fun (c_22 : ¬ p2 < 0 ∧ ¬ nI n - 1 < p2) => ?_) (fun (c_22 : ¬ (¬ p2 < 0 ∧ ¬ nI n - 1 < p2)) => ?_)
    · have hj2 := ok_note hn c_22
      refine lv_aload_n hx hb dX6_shared_31 rfl (lv_at hl 0 rfl) ?_
      refine lv_iload_n hx hb dX6_shared_32 rfl (lv_at hl 1 rfl) ?_
      refine x_tp (y := nI p1.toNatClampNeg) hj1.1 ?_
      refine lv_iload_n hx hb dX6_shared_33 rfl (lv_at hl 2 rfl) ?_
      refine x_tp (y := nI p2.toNatClampNeg) hj2.1 ?_
      refine rcVi (As := [.int (nI p1.toNatClampNeg), .int (nI p2.toNatClampNeg)]) (rest := []) ⟨hx, hb, hml, hown, hts⟩ (k6_areShared l D b cA (va_up u 0 0) n m (va_up a 13 (SR a m n)) p1.toNatClampNeg p2.toNatClampNeg (by omega) (by omega) (by omega)) (cwV 2 hts gX6_shared_X6_areShared rfl rfl rfl (by decide +kernel) ⟨Nat.le_of_ble_eq_true rfl, Nat.le_of_ble_eq_true rfl⟩) (va_recv hK.1 hP (ci := 6) (q0 := 0) rfl rfl) hP hK rfl hl.1 rfl (Nat.le_of_ble_eq_true rfl) dX6_shared_34 ⟨Nat.zero_le _, Nat.zero_le _⟩ ?_
      refine x_ifeq (tgt := 44) hx hb dX6_shared_37 (by decide) (fun (c_37 : ¬ (rSh (a 7) (a 8) (a 9) (SR a m n) (a 12) (a 11) n p1.toNatClampNeg p2.toNatClampNeg)) => ?_) (fun (c_37 : rSh (a 7) (a 8) (a 9) (SR a m n) (a 12) (a 11) n p1.toNatClampNeg p2.toNatClampNeg) => ?_)
      · refine lv_iconst (v := 0) hx hb dX6_shared_44 (by decide) ?_
        exact w_iret (S0 := mS) (w1 := mX b cA) (va_up u 0 0, n, m, va_up a 13 (SR a m n)) hx hb hr hlk hP hD hS ⟨(by rw [if_pos ⟨c_14, c_22⟩]; exact (bv_f c_37).symm), _, rfl, fun i hi => (by rw [va_up_ne _ _ (by omega)])⟩ dX6_shared_45
      · refine lv_iconst (v := 1) hx hb dX6_shared_40 (by decide) ?_
        refine lv_goto (tgt := 45) hx hb dX6_shared_41 (by decide) ?_
        exact w_iret (S0 := mS) (w1 := mX b cA) (va_up u 0 0, n, m, va_up a 13 (SR a m n)) hx hb hr hlk hP hD hS ⟨(by rw [if_pos ⟨c_14, c_22⟩]; exact (bv_t c_37).symm), _, rfl, fun i hi => (by rw [va_up_ne _ _ (by omega)])⟩ dX6_shared_45
    · refine lv_sipush (v := (-1001)) hx hb dX6_shared_25 (by decide) ?_
      refine lv_goto (tgt := 45) hx hb dX6_shared_28 (by decide) ?_
      exact w_iret (S0 := mS) (w1 := mX b cA) (va_up u 0 0, n, m, va_up a 13 (SR a m n)) hx hb hr hlk hP hD hS ⟨(by rw [if_neg (fun h => c_22 h.2)]), _, rfl, fun i hi => (by rw [va_up_ne _ _ (by omega)])⟩ dX6_shared_45

set_option maxHeartbeats 4000000 in
set_option maxRecDepth 100000 in
theorem k6_gap (l : Launch) (D : va_G) (b : Nat → Nat) (cA : ClassId) (u : Nat → Int32) (n m : Nat) (a : Nat → Nat → Int32) (sz : Nat) (p1 : Int32) (hn : n ≤ 60) (hm : m ≤ 12) (hs4 : ∀ k, k < n → a 7 k = nI ((a 7 k).toNatClampNeg) ∧ (a 7 k).toNatClampNeg < 4) : Met l yX6_gap wsX6_gap ({ frames := 7, cells := 0, slots := 0, locals := 173 }) (wPc D (mW b cA u n m a) [(cA, .int)] sz [.ref (b 0), .int p1]) (va_Qi (fun (r9 : Int32) (x : mS) => r9 = (if okI p1 0 3 then (if p1 = 0 ∨ rHidA (a 7) (u 4) p1 n then -1000 else rGapA (a 7) (a 8) (a 9) (SR a m n) (a 12) n (u 2) (u 3) (u 4) (p1.toNatClampNeg - 1)) else -1001) ∧ mQ u n m a 0 x) (wB D (mW b cA u n m a) sz (mX b cA)) (va_A (mW b cA u n m a) sz)) 0 0 (va_A (mW b cA u n m a) sz) := by
  refine w_head (C := RX6) (cc := cX6_gap) (maxL := 2) (ret := (some .int)) [(0, .ref (b 0)), (1, .int p1)] (by decide) rfl rfl (Nat.le_of_ble_eq_true rfl) rfl ?_
  intro p e s mi below meth c hx hb hr hlk hml hown hin hts hP hD hS hA hK ls hl
  have hiX60 : ∀ w ∈ wsX60, w ∈ wsX6_gap := fun w h => List.mem_cons_of_mem _ (List.mem_append_right _ h)
  have f0 := hts (.fieldLink RX6 69 "StaffHeadsModel" "thrown" "I") (List.mem_of_getElem? (i := 1) rfl)
  refine lv_aload_n hx hb dX6_gap_0 rfl (lv_at hl 0 rfl) ?_
  refine lv_iconst (v := 0) hx hb dX6_gap_1 (by decide) ?_
  refine va_put (D := D) (ci := 6) (v := .int 0) (ty := .int) (C := RX6) (T := TX6) (N := 23) hx hb hts hiX60 tyX6 tyX6_ok nmX6 hown hK.1 hP hD hS 0 rfl rfl 0 (by decide) f0 (fun _ h9 => h9) rfl (by decide +kernel) rfl rfl (Nat.le_of_ble_eq_true rfl) dX6_gap_2 (fun H locs hP hD hS => ?_)
  have hP : va_P D vwCl (mW b cA (va_up u 0 0) n m a) H := hP
  have hD : va_D (va_A (mW b cA u n m a) sz) (mW b cA (va_up u 0 0) n m a) := hD
  refine lv_iload_n hx hb dX6_gap_5 rfl (lv_at hl 1 rfl) ?_
  refine rcSi (As := [.int p1]) (rest := []) ⟨hx, hb, hml, hown, hts⟩ (k6_isStaff l p1) (va_cwS 1 hts gX6_gap_X6_isStaff rfl rfl rfl (by decide +kernel) ⟨Nat.le_of_ble_eq_true rfl, Nat.le_of_ble_eq_true rfl⟩) rfl hl.1 rfl (Nat.le_of_ble_eq_true rfl) dX6_gap_6 ⟨Nat.zero_le _, Nat.zero_le _⟩ ?_
  refine x_ifne (tgt := 16) hx hb dX6_gap_9 (by decide) (fun (c_9 : ¬ p1 < 0 ∧ ¬ 3 < p1) => ?_) (fun (c_9 : ¬ (¬ p1 < 0 ∧ ¬ 3 < p1)) => ?_)
  · have hj := okI_nat (N := 3) (by decide) c_9
    refine lv_aload_n hx hb dX6_gap_16 rfl (lv_at hl 0 rfl) ?_
    refine wcVv (S0 := Unit) (wr := []) (As := []) (rest := []) ⟨hx, hb, hml, hown, hts⟩ (k6_reckon l D b cA (va_up u 0 0) n m a H.size (by omega) (by omega) hs4) (cwV 0 hts gX6_gap_X6_reckon rfl rfl rfl (by decide +kernel) ⟨Nat.le_of_ble_eq_true rfl, Nat.le_of_ble_eq_true rfl⟩) (va_recv hK.1 hP (ci := 6) (q0 := 0) rfl rfl) hP hD hS hA hK [0, 1, 2, 3, 4, 5, 6, 7, 8, 9, 10, 11, 12, 13, 14, 15, 16] [] rfl rfl (by decide) (by decide) (by decide) rfl hl.1 rfl (Nat.le_of_ble_eq_true rfl) dX6_gap_17 ⟨Nat.zero_le _, Nat.zero_le _⟩ (fun _ H locs _ hP hD hS => ?_)
    have hP : va_P D vwCl (mW b cA (va_up u 0 0) n m (va_up a 13 (SR a m n))) H := hP
    have hD : va_D (va_A (mW b cA u n m a) sz) (mW b cA (va_up u 0 0) n m (va_up a 13 (SR a m n))) := hD
    refine lv_iload_n hx hb dX6_gap_20 rfl (lv_at hl 1 rfl) ?_
    refine lv_if_eq (tgt := 32) hx hb dX6_gap_21 (by decide) (fun c_21 => ?_) (fun c_21 => ?_)
    · refine lv_sipush (v := (-1000)) hx hb dX6_gap_32 (by decide) ?_
      refine lv_goto (tgt := 43) hx hb dX6_gap_35 (by decide) ?_
      exact w_iret (S0 := mS) (w1 := mX b cA) (va_up u 0 0, n, m, va_up a 13 (SR a m n)) hx hb hr hlk hP hD hS ⟨(by rw [if_pos c_9, if_pos (Or.inl c_21)]), _, rfl, fun i hi => (by rw [va_up_ne _ _ (by omega)])⟩ dX6_gap_43
    · refine lv_aload_n hx hb dX6_gap_24 rfl (lv_at hl 0 rfl) ?_
      refine lv_iload_n hx hb dX6_gap_25 rfl (lv_at hl 1 rfl) ?_
      refine rcVi (As := [.int p1]) (rest := []) ⟨hx, hb, hml, hown, hts⟩ (k6_isHidden l D b cA (va_up u 0 0) n m (va_up a 13 (SR a m n)) p1 (by omega)) (cwV 1 hts gX6_gap_X6_isHidden rfl rfl rfl (by decide +kernel) ⟨Nat.le_of_ble_eq_true rfl, Nat.le_of_ble_eq_true rfl⟩) (va_recv hK.1 hP (ci := 6) (q0 := 0) rfl rfl) hP hK rfl hl.1 rfl (Nat.le_of_ble_eq_true rfl) dX6_gap_26 ⟨Nat.zero_le _, Nat.zero_le _⟩ ?_
      refine x_ifeq (tgt := 38) hx hb dX6_gap_29 (by decide) (fun (c_29 : ¬ (rHidA (a 7) (u 4) p1 n)) => ?_) (fun (c_29 : rHidA (a 7) (u 4) p1 n) => ?_)
      · have hj3 : 0 < p1.toNatClampNeg := Nat.pos_of_ne_zero (fun q => c_21 (by rw [hj.1, q]; rfl))
        have hj4 : p1 = nI (p1.toNatClampNeg - 1 + 1) := by rw [Nat.sub_add_cancel hj3]; exact hj.1
        refine lv_aload_n hx hb dX6_gap_38 rfl (lv_at hl 0 rfl) ?_
        refine lv_iload_n hx hb dX6_gap_39 rfl (lv_at hl 1 rfl) ?_
        refine x_tp (y := nI (p1.toNatClampNeg - 1 + 1)) hj4 ?_
        refine rcVi (As := [.int (nI (p1.toNatClampNeg - 1 + 1))]) (rest := []) ⟨hx, hb, hml, hown, hts⟩ (k6_gapAbove l D b cA (va_up u 0 0) n m (va_up a 13 (SR a m n)) (p1.toNatClampNeg - 1) (by omega) (by omega)) (cwV 1 hts gX6_gap_X6_gapAbove rfl rfl rfl (by decide +kernel) ⟨Nat.le_of_ble_eq_true rfl, Nat.le_of_ble_eq_true rfl⟩) (va_recv hK.1 hP (ci := 6) (q0 := 0) rfl rfl) hP hK rfl hl.1 rfl (Nat.le_of_ble_eq_true rfl) dX6_gap_40 ⟨Nat.zero_le _, Nat.zero_le _⟩ ?_
        exact w_iret (S0 := mS) (w1 := mX b cA) (va_up u 0 0, n, m, va_up a 13 (SR a m n)) hx hb hr hlk hP hD hS ⟨(by rw [if_pos c_9, if_neg (fun h => h.elim c_21 c_29)]; rfl), _, rfl, fun i hi => (by rw [va_up_ne _ _ (by omega)])⟩ dX6_gap_43
      · refine lv_sipush (v := (-1000)) hx hb dX6_gap_32 (by decide) ?_
        refine lv_goto (tgt := 43) hx hb dX6_gap_35 (by decide) ?_
        exact w_iret (S0 := mS) (w1 := mX b cA) (va_up u 0 0, n, m, va_up a 13 (SR a m n)) hx hb hr hlk hP hD hS ⟨(by rw [if_pos c_9, if_pos (Or.inr c_29)]), _, rfl, fun i hi => (by rw [va_up_ne _ _ (by omega)])⟩ dX6_gap_43
  · refine lv_sipush (v := (-1001)) hx hb dX6_gap_12 (by decide) ?_
    exact w_iret (S0 := mS) (w1 := mX b cA) (va_up u 0 0, n, m, a) hx hb hr hlk hP hD hS ⟨(by rw [if_neg c_9]), _, rfl, fun i hi => rfl⟩ dX6_gap_15

set_option maxHeartbeats 4000000 in
set_option maxRecDepth 100000 in
theorem k6_place (l : Launch) (D : va_G) (b : Nat → Nat) (cA : ClassId) (u : Nat → Int32) (n m : Nat) (a : Nat → Nat → Int32) (sz : Nat) (p1 : Int32) (hn : n ≤ 60) (hm : m ≤ 12) (hs4 : ∀ k, k < n → a 7 k = nI ((a 7 k).toNatClampNeg) ∧ (a 7 k).toNatClampNeg < 4) : Met l yX6_place wsX6_place ({ frames := 8, cells := 0, slots := 0, locals := 197 }) (wPc D (mW b cA u n m a) [(cA, .int)] sz [.ref (b 0), .int p1]) (va_Ql (fun (r9 : Int64) (x : mS) => r9 = (if okI p1 0 3 then (if rHidA (a 7) (u 4) p1 n then -1000 else (u 1).toInt64 * rPl (a 7) (a 8) (a 9) (SR a m n) (a 12) n (u 2) (u 3) (u 4) p1.toNatClampNeg) else -1001) ∧ mQ u n m a 0 x) (wB D (mW b cA u n m a) sz (mX b cA)) (va_A (mW b cA u n m a) sz)) 0 0 (va_A (mW b cA u n m a) sz) := by
  refine w_head (C := RX6) (cc := cX6_place) (maxL := 2) (ret := (some .long)) [(0, .ref (b 0)), (1, .int p1)] (by decide) rfl rfl (Nat.le_of_ble_eq_true rfl) rfl ?_
  intro p e s mi below meth c hx hb hr hlk hml hown hin hts hP hD hS hA hK ls hl
  have hiX60 : ∀ w ∈ wsX60, w ∈ wsX6_place := fun w h => List.mem_cons_of_mem _ (List.mem_append_right _ h)
  have f0 := hts (.fieldLink RX6 69 "StaffHeadsModel" "thrown" "I") (List.mem_of_getElem? (i := 1) rfl)
  have f1 := hts (.constantLong RX6 166 (-1000)) (List.mem_of_getElem? (i := 3) rfl)
  have f2 := hts (.constantLong RX6 164 (-1001)) (List.mem_of_getElem? (i := 2) rfl)
  refine lv_aload_n hx hb dX6_place_0 rfl (lv_at hl 0 rfl) ?_
  refine lv_iconst (v := 0) hx hb dX6_place_1 (by decide) ?_
  refine va_put (D := D) (ci := 6) (v := .int 0) (ty := .int) (C := RX6) (T := TX6) (N := 23) hx hb hts hiX60 tyX6 tyX6_ok nmX6 hown hK.1 hP hD hS 0 rfl rfl 0 (by decide) f0 (fun _ h9 => h9) rfl (by decide +kernel) rfl rfl (Nat.le_of_ble_eq_true rfl) dX6_place_2 (fun H locs hP hD hS => ?_)
  have hP : va_P D vwCl (mW b cA (va_up u 0 0) n m a) H := hP
  have hD : va_D (va_A (mW b cA u n m a) sz) (mW b cA (va_up u 0 0) n m a) := hD
  refine lv_iload_n hx hb dX6_place_5 rfl (lv_at hl 1 rfl) ?_
  refine rcSi (As := [.int p1]) (rest := []) ⟨hx, hb, hml, hown, hts⟩ (k6_isStaff l p1) (va_cwS 1 hts gX6_place_X6_isStaff rfl rfl rfl (by decide +kernel) ⟨Nat.le_of_ble_eq_true rfl, Nat.le_of_ble_eq_true rfl⟩) rfl hl.1 rfl (Nat.le_of_ble_eq_true rfl) dX6_place_6 ⟨Nat.zero_le _, Nat.zero_le _⟩ ?_
  refine x_ifne (tgt := 16) hx hb dX6_place_9 (by decide) (fun (c_9 : ¬ p1 < 0 ∧ ¬ 3 < p1) => ?_) (fun (c_9 : ¬ (¬ p1 < 0 ∧ ¬ 3 < p1)) => ?_)
  · have hj := okI_nat (N := 3) (by decide) c_9
    refine lv_aload_n hx hb dX6_place_16 rfl (lv_at hl 0 rfl) ?_
    refine wcVv (S0 := Unit) (wr := []) (As := []) (rest := []) ⟨hx, hb, hml, hown, hts⟩ (k6_reckon l D b cA (va_up u 0 0) n m a H.size (by omega) (by omega) hs4) (cwV 0 hts gX6_place_X6_reckon rfl rfl rfl (by decide +kernel) ⟨Nat.le_of_ble_eq_true rfl, Nat.le_of_ble_eq_true rfl⟩) (va_recv hK.1 hP (ci := 6) (q0 := 0) rfl rfl) hP hD hS hA hK [0, 1, 2, 3, 4, 5, 6, 7, 8, 9, 10, 11, 12, 13, 14, 15, 16] [] rfl rfl (by decide) (by decide) (by decide) rfl hl.1 rfl (Nat.le_of_ble_eq_true rfl) dX6_place_17 ⟨Nat.zero_le _, Nat.zero_le _⟩ (fun _ H locs _ hP hD hS => ?_)
    have hP : va_P D vwCl (mW b cA (va_up u 0 0) n m (va_up a 13 (SR a m n))) H := hP
    have hD : va_D (va_A (mW b cA u n m a) sz) (mW b cA (va_up u 0 0) n m (va_up a 13 (SR a m n))) := hD
    refine lv_aload_n hx hb dX6_place_20 rfl (lv_at hl 0 rfl) ?_
    refine lv_iload_n hx hb dX6_place_21 rfl (lv_at hl 1 rfl) ?_
    refine rcVi (As := [.int p1]) (rest := []) ⟨hx, hb, hml, hown, hts⟩ (k6_isHidden l D b cA (va_up u 0 0) n m (va_up a 13 (SR a m n)) p1 (by omega)) (cwV 1 hts gX6_place_X6_isHidden rfl rfl rfl (by decide +kernel) ⟨Nat.le_of_ble_eq_true rfl, Nat.le_of_ble_eq_true rfl⟩) (va_recv hK.1 hP (ci := 6) (q0 := 0) rfl rfl) hP hK rfl hl.1 rfl (Nat.le_of_ble_eq_true rfl) dX6_place_22 ⟨Nat.zero_le _, Nat.zero_le _⟩ ?_
    refine x_ifeq (tgt := 34) hx hb dX6_place_25 (by decide) (fun (c_25 : ¬ (rHidA (a 7) (u 4) p1 n)) => ?_) (fun (c_25 : rHidA (a 7) (u 4) p1 n) => ?_)
    · refine lv_aload_n hx hb dX6_place_34 rfl (lv_at hl 0 rfl) ?_
      refine lv_iload_n hx hb dX6_place_35 rfl (lv_at hl 1 rfl) ?_
      refine x_tp (y := nI p1.toNatClampNeg) hj.1 ?_
      refine rcVl (As := [.int (nI p1.toNatClampNeg)]) (rest := []) ⟨hx, hb, hml, hown, hts⟩ (k6_placeOf l D b cA (va_up u 0 0) n m (va_up a 13 (SR a m n)) p1.toNatClampNeg (by omega) (by omega)) (cwV 1 hts gX6_place_X6_placeOf rfl rfl rfl (by decide +kernel) ⟨Nat.le_of_ble_eq_true rfl, Nat.le_of_ble_eq_true rfl⟩) (va_recv hK.1 hP (ci := 6) (q0 := 0) rfl rfl) hP hK rfl hl.1 rfl (Nat.le_of_ble_eq_true rfl) dX6_place_36 ⟨Nat.zero_le _, Nat.zero_le _⟩ ?_
      exact w_lret (S0 := mS) (w1 := mX b cA) (va_up u 0 0, n, m, va_up a 13 (SR a m n)) hx hb hr hlk hP hD hS ⟨(by rw [if_pos c_9, if_neg c_25]; rfl), _, rfl, fun i hi => (by rw [va_up_ne _ _ (by omega)])⟩ dX6_place_39
    · refine lv_ldc2 (v := (-1000)) hx hb hown f1 dX6_place_28 ?_
      refine lv_goto (tgt := 39) hx hb dX6_place_31 (by decide) ?_
      exact w_lret (S0 := mS) (w1 := mX b cA) (va_up u 0 0, n, m, va_up a 13 (SR a m n)) hx hb hr hlk hP hD hS ⟨(by rw [if_pos c_9, if_pos c_25]), _, rfl, fun i hi => (by rw [va_up_ne _ _ (by omega)])⟩ dX6_place_39
  · refine lv_ldc2 (v := (-1001)) hx hb hown f2 dX6_place_12 ?_
    exact w_lret (S0 := mS) (w1 := mX b cA) (va_up u 0 0, n, m, a) hx hb hr hlk hP hD hS ⟨(by rw [if_neg c_9]), _, rfl, fun i hi => rfl⟩ dX6_place_15

set_option maxHeartbeats 4000000 in
set_option maxRecDepth 100000 in
theorem k6_height (l : Launch) (D : va_G) (b : Nat → Nat) (cA : ClassId) (u : Nat → Int32) (n m : Nat) (a : Nat → Nat → Int32) (sz : Nat) (p1 : Int32) (hn : n ≤ 60) (hm : m ≤ 12) (hs4 : ∀ k, k < n → a 7 k = nI ((a 7 k).toNatClampNeg) ∧ (a 7 k).toNatClampNeg < 4) : Met l yX6_height wsX6_height ({ frames := 8, cells := 0, slots := 0, locals := 197 }) (wPc D (mW b cA u n m a) [(cA, .int)] sz [.ref (b 0), .int p1]) (va_Ql (fun (r9 : Int64) (x : mS) => r9 = (if okI p1 0 (nI n - 1) then (u 1).toInt64 * (SR a m n p1.toNatClampNeg).toInt64 - (u 1).toInt64 * rPl (a 7) (a 8) (a 9) (SR a m n) (a 12) n (u 2) (u 3) (u 4) ((a 7 p1.toNatClampNeg).toNatClampNeg) else -1001) ∧ mQ u n m a 0 x) (wB D (mW b cA u n m a) sz (mX b cA)) (va_A (mW b cA u n m a) sz)) 0 0 (va_A (mW b cA u n m a) sz) := by
  refine w_head (C := RX6) (cc := cX6_height) (maxL := 2) (ret := (some .long)) [(0, .ref (b 0)), (1, .int p1)] (by decide) rfl rfl (Nat.le_of_ble_eq_true rfl) rfl ?_
  intro p e s mi below meth c hx hb hr hlk hml hown hin hts hP hD hS hA hK ls hl
  have hiX60 : ∀ w ∈ wsX60, w ∈ wsX6_height := fun w h => List.mem_cons_of_mem _ (List.mem_append_right _ h)
  have f0 := hts (.fieldLink RX6 69 "StaffHeadsModel" "thrown" "I") (List.mem_of_getElem? (i := 1) rfl)
  have f1 := hts (.constantLong RX6 164 (-1001)) (List.mem_of_getElem? (i := 4) rfl)
  have f2 := hts (.fieldLink RX6 66 "StaffHeadsModel" "unit" "I") (List.mem_of_getElem? (i := 2) rfl)
  have f3 := hts (.fieldLink RX6 28 "StaffHeadsModel" "staffOf" "[I") (List.mem_of_getElem? (i := 3) rfl)
  refine lv_aload_n hx hb dX6_height_0 rfl (lv_at hl 0 rfl) ?_
  refine lv_iconst (v := 0) hx hb dX6_height_1 (by decide) ?_
  refine va_put (D := D) (ci := 6) (v := .int 0) (ty := .int) (C := RX6) (T := TX6) (N := 23) hx hb hts hiX60 tyX6 tyX6_ok nmX6 hown hK.1 hP hD hS 0 rfl rfl 0 (by decide) f0 (fun _ h9 => h9) rfl (by decide +kernel) rfl rfl (Nat.le_of_ble_eq_true rfl) dX6_height_2 (fun H locs hP hD hS => ?_)
  have hP : va_P D vwCl (mW b cA (va_up u 0 0) n m a) H := hP
  have hD : va_D (va_A (mW b cA u n m a) sz) (mW b cA (va_up u 0 0) n m a) := hD
  refine lv_aload_n hx hb dX6_height_5 rfl (lv_at hl 0 rfl) ?_
  refine wcVv (S0 := Unit) (wr := []) (As := []) (rest := []) ⟨hx, hb, hml, hown, hts⟩ (k6_reckon l D b cA (va_up u 0 0) n m a H.size (by omega) (by omega) hs4) (cwV 0 hts gX6_height_X6_reckon rfl rfl rfl (by decide +kernel) ⟨Nat.le_of_ble_eq_true rfl, Nat.le_of_ble_eq_true rfl⟩) (va_recv hK.1 hP (ci := 6) (q0 := 0) rfl rfl) hP hD hS hA hK [0, 1, 2, 3, 4, 5, 6, 7, 8, 9, 10, 11, 12, 13, 14, 15, 16] [] rfl rfl (by decide) (by decide) (by decide) rfl hl.1 rfl (Nat.le_of_ble_eq_true rfl) dX6_height_6 ⟨Nat.zero_le _, Nat.zero_le _⟩ (fun _ H locs _ hP hD hS => ?_)
  have hP : va_P D vwCl (mW b cA (va_up u 0 0) n m (va_up a 13 (SR a m n))) H := hP
  have hD : va_D (va_A (mW b cA u n m a) sz) (mW b cA (va_up u 0 0) n m (va_up a 13 (SR a m n))) := hD
  refine lv_aload_n hx hb dX6_height_9 rfl (lv_at hl 0 rfl) ?_
  refine lv_iload_n hx hb dX6_height_10 rfl (lv_at hl 1 rfl) ?_
  refine rcVi (As := [.int p1]) (rest := []) ⟨hx, hb, hml, hown, hts⟩ (k6_isNote l D b cA (va_up u 0 0) n m (va_up a 13 (SR a m n)) p1 ) (cwV 1 hts gX6_height_X6_isNote rfl rfl rfl (by decide +kernel) ⟨Nat.le_of_ble_eq_true rfl, Nat.le_of_ble_eq_true rfl⟩) (va_recv hK.1 hP (ci := 6) (q0 := 0) rfl rfl) hP hK rfl hl.1 rfl (Nat.le_of_ble_eq_true rfl) dX6_height_11 ⟨Nat.zero_le _, Nat.zero_le _⟩ ?_
  refine x_ifeq (tgt := 43) hx hb dX6_height_14 (by decide) (fun (c_14 : ¬ (¬ p1 < 0 ∧ ¬ nI n - 1 < p1)) => ?_) (fun (c_14 : ¬ p1 < 0 ∧ ¬ nI n - 1 < p1) => ?_)
  · refine lv_ldc2 (v := (-1001)) hx hb hown f1 dX6_height_43 ?_
    exact w_lret (S0 := mS) (w1 := mX b cA) (va_up u 0 0, n, m, va_up a 13 (SR a m n)) hx hb hr hlk hP hD hS ⟨(by rw [if_neg c_14]), _, rfl, fun i hi => (by rw [va_up_ne _ _ (by omega)])⟩ dX6_height_46
  · have hj1 := ok_note hn c_14
    refine lv_aload_n hx hb dX6_height_17 rfl (lv_at hl 0 rfl) ?_
    refine va_get (D := D) (ci := 6) (v := .int (u 1)) (C := RX6) (T := TX6) (N := 23) hx hb hts hiX60 hown hK.1 hP 0 rfl rfl 1 (by decide) f2 (fun _ h9 => h9) rfl dX6_height_18 ?_
    refine lv_i2l (v := (u 1).toInt64) hx hb dX6_height_21 rfl ?_
    refine lv_aload_n hx hb dX6_height_22 rfl (lv_at hl 0 rfl) ?_
    refine lv_iload_n hx hb dX6_height_23 rfl (lv_at hl 1 rfl) ?_
    refine x_tp (y := nI p1.toNatClampNeg) hj1.1 ?_
    refine rcVi (As := [.int (nI p1.toNatClampNeg)]) (rest := [.long ((u 1).toInt64)]) ⟨hx, hb, hml, hown, hts⟩ (k6_step l D b cA (va_up u 0 0) n m (va_up a 13 (SR a m n)) p1.toNatClampNeg (by omega)) (cwV 1 hts gX6_height_X6_step rfl rfl rfl (by decide +kernel) ⟨Nat.le_of_ble_eq_true rfl, Nat.le_of_ble_eq_true rfl⟩) (va_recv hK.1 hP (ci := 6) (q0 := 0) rfl rfl) hP hK rfl hl.1 rfl (Nat.le_of_ble_eq_true rfl) dX6_height_24 ⟨Nat.zero_le _, Nat.zero_le _⟩ ?_
    refine lv_i2l (v := ((SR a m n) p1.toNatClampNeg).toInt64) hx hb dX6_height_27 rfl ?_
    refine lv_lmul hx hb dX6_height_28 ?_
    refine lv_aload_n hx hb dX6_height_29 rfl (lv_at hl 0 rfl) ?_
    refine lv_aload_n hx hb dX6_height_30 rfl (lv_at hl 0 rfl) ?_
    refine va_get (D := D) (ci := 6) (v := .ref (b 7)) (C := RX6) (T := TX6) (N := 23) hx hb hts hiX60 hown hK.1 hP 0 rfl rfl 10 (by decide) f3 (fun _ h9 => h9) rfl dX6_height_31 ?_
    refine lv_iload_n hx hb dX6_height_34 rfl (lv_at hl 1 rfl) ?_
    refine x_tp (y := nI p1.toNatClampNeg) hj1.1 ?_
    refine x_iald hx hb hK hP 7 0 rfl rfl (k := p1.toNatClampNeg) (by omega) (by decide) dX6_height_35 ?_
    refine x_tp (y := nI ((a 7 p1.toNatClampNeg).toNatClampNeg)) (hs4 _ hj1.2).1 ?_
    refine rcVl (As := [.int (nI ((a 7 p1.toNatClampNeg).toNatClampNeg))]) (rest := [.long (((u 1).toInt64) * (((SR a m n) p1.toNatClampNeg).toInt64))]) ⟨hx, hb, hml, hown, hts⟩ (k6_placeOf l D b cA (va_up u 0 0) n m (va_up a 13 (SR a m n)) ((a 7 p1.toNatClampNeg).toNatClampNeg) (by first | omega | exact (hs4 _ hj1.2).2) (by omega)) (cwV 1 hts gX6_height_X6_placeOf rfl rfl rfl (by decide +kernel) ⟨Nat.le_of_ble_eq_true rfl, Nat.le_of_ble_eq_true rfl⟩) (va_recv hK.1 hP (ci := 6) (q0 := 0) rfl rfl) hP hK rfl hl.1 rfl (Nat.le_of_ble_eq_true rfl) dX6_height_36 ⟨Nat.zero_le _, Nat.zero_le _⟩ ?_
    refine lv_lsub hx hb dX6_height_39 ?_
    refine lv_goto (tgt := 46) hx hb dX6_height_40 (by decide) ?_
    exact w_lret (S0 := mS) (w1 := mX b cA) (va_up u 0 0, n, m, va_up a 13 (SR a m n)) hx hb hr hlk hP hD hS ⟨(by rw [if_pos c_14]; rfl), _, rfl, fun i hi => (by rw [va_up_ne _ _ (by omega)])⟩ dX6_height_46
