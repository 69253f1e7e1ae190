set_option maxHeartbeats 4000000 in
set_option maxRecDepth 100000 in
theorem k5_shift (l0 : Launch) (D : va_G) (c : Nat → Nat) (cA cC : ClassId) (u : Nat → Int32) (n m : Nat) (lo : Nat → Int32) (a : Nat → Nat → Int32) (sl : Prop) (X : lS) (sz : Nat) (p1 p2 p3 p4 : Int32) (hm : m ≤ 12) : Met l0 yX5_shift wsX5_shift ({ frames := 2, cells := 0, slots := 0, locals := 42 }) (wPc D (shW c u ++ svW c cA m lo a ++ noW c cA n a ++ lyX c cA cC sl X) [(cA, .int), (cC, .object "StaffHeads$Chord")] sz [.ref (c 0), .int p1, .int p2, .int p3, .int p4]) (va_Qi (fun (r : Int32) (x : cS) => (r, x) = mutShift m p1 p2 p3 p4 (u, n, m, lo, a, sl, X) (u, n, m + 1, lo, rShiftA a m p1 p2 p3 p4, True, X)) (wB D (shW c u ++ svW c cA m lo a ++ noW c cA n a ++ lyX c cA cC sl X) sz (cX c cA cC)) (va_A (shW c u ++ svW c cA m lo a ++ noW c cA n a ++ lyX c cA cC sl X) sz)) 0 0 (va_A (shW c u ++ svW c cA m lo a ++ noW c cA n a ++ lyX c cA cC sl X) sz) := by
  refine w_head (C := RX5) (cc := cX5_shift) (maxL := 5) (ret := (some .int)) [(0, .ref (c 0)), (1, .int p1), (2, .int p2), (3, .int p3), (4, .int p4)] (by decide) rfl rfl (Nat.le_of_ble_eq_true rfl) rfl ?_
  intro p e s mi below meth cd hx hb hr hlk hml hown hin hts hP hD hS hA hK ls hl
  have hiX10 : ∀ w ∈ wsX10, w ∈ wsX5_shift := fun w h => List.mem_cons_of_mem _ (List.mem_append_right _ h)
  have hiX40 : ∀ w ∈ wsX40, w ∈ wsX5_shift := fun w h => List.mem_cons_of_mem _ (List.mem_append_left _ (List.mem_append_right _ h))
  have hiX50 : ∀ w ∈ wsX50, w ∈ wsX5_shift := fun w h => List.mem_cons_of_mem _ (List.mem_append_left _ (List.mem_append_left _ (List.mem_append_right _ h)))
  have f0 := hts (.fieldLink RX5 10 "StaffHeads" "staves" "LStaffHeads$Staves;") (List.mem_of_getElem? (i := 1) rfl)
  have f1 := hts (.fieldLink RX5 67 "StaffHeads$Staves" "shifts" "I") (List.mem_of_getElem? (i := 2) rfl)
  have f2 := hts (.fieldLink RX5 26 "StaffHeads" "layout" "LStaffHeads$Layout;") (List.mem_of_getElem? (i := 3) rfl)
  have f3 := hts (.fieldLink RX5 61 "StaffHeads$Layout" "stale" "Z") (List.mem_of_getElem? (i := 4) rfl)
  have hK1 : kK D [(cA, .int)] s := ⟨hK.1.sub [0] rfl, hK.2⟩
  refine lv_iload_n hx hb dX5_shift_0 rfl (lv_at hl 1 rfl) ?_
  refine rcSi (As := [.int p1]) (rest := []) ⟨hx, hb, hml, hown, hts⟩ (k5_isStaff l0 p1) (va_cwS 1 hts gX5_shift_X5_isStaff rfl rfl rfl (by decide +kernel) ⟨Nat.le_of_ble_eq_true rfl, Nat.le_of_ble_eq_true rfl⟩) rfl hl.1 rfl (Nat.le_of_ble_eq_true rfl) dX5_shift_1 ⟨Nat.zero_le _, Nat.zero_le _⟩ ?_
  refine x_ifne (tgt := 11) hx hb dX5_shift_4 (by decide) (fun (c_4 : okI p1 0 3) => ?_) (fun (c_4 : ¬ (okI p1 0 3)) => ?_)
  · refine lv_iload_n hx hb dX5_shift_11 rfl (lv_at hl 2 rfl) ?_
    refine rcSi (As := [.int p2]) (rest := []) ⟨hx, hb, hml, hown, hts⟩ (k5_isTick l0 p2) (va_cwS 1 hts gX5_shift_X5_isTick rfl rfl rfl (by decide +kernel) ⟨Nat.le_of_ble_eq_true rfl, Nat.le_of_ble_eq_true rfl⟩) rfl hl.1 rfl (Nat.le_of_ble_eq_true rfl) dX5_shift_12 ⟨Nat.zero_le _, Nat.zero_le _⟩ ?_
    refine x_ifeq (tgt := 41) hx hb dX5_shift_15 (by decide) (fun (c_15 : ¬ (okI p2 0 99)) => ?_) (fun (c_15 : okI p2 0 99) => ?_)
    · refine lv_sipush (v := (-1002)) hx hb dX5_shift_41 (by decide) ?_
      exact w_iret (S0 := cS) (w1 := cX c cA cC) (u, n, m, lo, a, sl, X) hx hb hr hlk hP hD hS (by rw [mutShift, if_pos c_4, if_neg (fun h => c_15 h.1)] <;> rfl) dX5_shift_44
    · refine lv_iload_n hx hb dX5_shift_18 rfl (lv_at hl 3 rfl) ?_
      refine rcSi (As := [.int p3]) (rest := []) ⟨hx, hb, hml, hown, hts⟩ (k5_isTick l0 p3) (va_cwS 1 hts gX5_shift_X5_isTick rfl rfl rfl (by decide +kernel) ⟨Nat.le_of_ble_eq_true rfl, Nat.le_of_ble_eq_true rfl⟩) rfl hl.1 rfl (Nat.le_of_ble_eq_true rfl) dX5_shift_19 ⟨Nat.zero_le _, Nat.zero_le _⟩ ?_
      refine x_ifeq (tgt := 41) hx hb dX5_shift_22 (by decide) (fun (c_22 : ¬ (okI p3 0 99)) => ?_) (fun (c_22 : okI p3 0 99) => ?_)
      · refine lv_sipush (v := (-1002)) hx hb dX5_shift_41 (by decide) ?_
        exact w_iret (S0 := cS) (w1 := cX c cA cC) (u, n, m, lo, a, sl, X) hx hb hr hlk hP hD hS (by rw [mutShift, if_pos c_4, if_neg (fun h => c_22 (ok_tick h.1 h.2.1))] <;> rfl) dX5_shift_44
      · refine lv_iload_n hx hb dX5_shift_25 rfl (lv_at hl 2 rfl) ?_
        refine lv_iload_n hx hb dX5_shift_26 rfl (lv_at hl 3 rfl) ?_
        refine lv_icmp_gt (tgt := 41) hx hb dX5_shift_27 (by decide) (fun c_27 => ?_) (fun c_27 => ?_)
        · refine lv_sipush (v := (-1002)) hx hb dX5_shift_41 (by decide) ?_
          exact w_iret (S0 := cS) (w1 := cX c cA cC) (u, n, m, lo, a, sl, X) hx hb hr hlk hP hD hS (by rw [mutShift, if_pos c_4, if_neg (fun h => h.2.1.1 c_27)] <;> rfl) dX5_shift_44
        · refine lv_iload hx hb dX5_shift_30 (lv_at hl 4 rfl) ?_
          refine lv_bipush (v := (-2)) hx hb dX5_shift_32 (by decide) ?_
          refine lv_iconst (v := 2) hx hb dX5_shift_34 (by decide) ?_
          refine rcSi (As := [.int p4, .int (-2), .int 2]) (rest := []) ⟨hx, hb, hml, hown, hts⟩ (k5_within l0 p4 (-2) 2) (va_cwS 3 hts gX5_shift_X5_within rfl rfl rfl (by decide +kernel) ⟨Nat.le_of_ble_eq_true rfl, Nat.le_of_ble_eq_true rfl⟩) rfl hl.1 rfl (Nat.le_of_ble_eq_true rfl) dX5_shift_35 ⟨Nat.zero_le _, Nat.zero_le _⟩ ?_
          refine x_ifne (tgt := 45) hx hb dX5_shift_38 (by decide) (fun (c_38 : okI p4 (-2) 2) => ?_) (fun (c_38 : ¬ (okI p4 (-2) 2)) => ?_)
          · refine lv_aload_n hx hb dX5_shift_45 rfl (lv_at hl 0 rfl) ?_
            refine va_get (D := D) (ci := 5) (v := .ref (c 1)) (C := RX5) (T := TX5) (N := 7) hx hb hts hiX50 hown hK.1 hP 0 rfl rfl 1 (by decide) f0 (fun _ h9 => h9) rfl dX5_shift_46 ?_
            refine va_get (D := D) (ci := 4) (v := .int (nI m)) (C := RX4) (T := TX4) (N := 6) hx hb hts hiX40 hown hK.1 hP 1 rfl rfl 5 (by decide) f1 (fun _ h9 => h9) rfl dX5_shift_49 ?_
            refine lv_bipush (v := 12) hx hb dX5_shift_52 (by decide) ?_
            refine x_tp (y := nI 12) (show (12 : Int32) = nI 12 from rfl) ?_
            refine x_nlt (tgt := 61) hx hb dX5_shift_54 (by decide) (by omega) (by omega) (fun c_54 => ?_) (fun c_54 => ?_)
            · refine lv_aload_n hx hb dX5_shift_61 rfl (lv_at hl 0 rfl) ?_
              refine va_get (D := D) (ci := 5) (v := .ref (c 1)) (C := RX5) (T := TX5) (N := 7) hx hb hts hiX50 hown hK.1 hP 0 rfl rfl 1 (by decide) f0 (fun _ h9 => h9) rfl dX5_shift_62 ?_
              refine lv_iload_n hx hb dX5_shift_65 rfl (lv_at hl 1 rfl) ?_
              refine lv_iload_n hx hb dX5_shift_66 rfl (lv_at hl 2 rfl) ?_
              refine lv_iload_n hx hb dX5_shift_67 rfl (lv_at hl 3 rfl) ?_
              refine lv_iload hx hb dX5_shift_68 (lv_at hl 4 rfl) ?_
              refine wcVv (S0 := Unit) (wr := shW c u ++ noW c cA n a ++ lyX c cA cC sl X) (As := [.int p1, .int p2, .int p3, .int p4]) (rest := []) ⟨hx, hb, hml, hown, hts⟩ (k4_addShift l0 D c cA m lo a _ p1 p2 p3 p4 (by omega)) (cwV 4 hts gX5_shift_X4_addShift rfl rfl rfl (by decide +kernel) ⟨Nat.le_of_ble_eq_true rfl, Nat.le_of_ble_eq_true rfl⟩) (va_recv hK.1 hP (ci := 4) (q0 := 1) rfl rfl) hP hD hS hA hK1 [1, 2, 3, 4, 5, 6] [0, 7, 8, 9, 10, 11, 12, 13, 14, 15, 16, 17, 18, 19, 20, 21, 22, 23, 24, 25, 26, 27, 28, 29, 30, 31, 32, 33, 34, 35, 36] rfl rfl (by decide) (by decide) (by decide) rfl hl.1 rfl (Nat.le_of_ble_eq_true rfl) dX5_shift_70 ⟨Nat.zero_le _, Nat.zero_le _⟩ (fun _ H locs _ hP hD hS => ?_)
              have hP : va_P D vwCl (shW c u ++ svW c cA (m + 1) lo (rShiftA a m p1 p2 p3 p4) ++ noW c cA n a ++ lyX c cA cC sl X) H := hP.sub [0, 31, 32, 33, 34, 35, 36, 1, 2, 3, 4, 5, 6, 7, 8, 9, 10, 11, 12, 13, 14, 15, 16, 17, 18, 19, 20, 21, 22, 23, 24, 25, 26, 27, 28, 29, 30] rfl
              have hD : va_D (va_A (shW c u ++ svW c cA m lo a ++ noW c cA n a ++ lyX c cA cC sl X) sz) (shW c u ++ svW c cA (m + 1) lo (rShiftA a m p1 p2 p3 p4) ++ noW c cA n a ++ lyX c cA cC sl X) := hD.sub [0, 31, 32, 33, 34, 35, 36, 1, 2, 3, 4, 5, 6, 7, 8, 9, 10, 11, 12, 13, 14, 15, 16, 17, 18, 19, 20, 21, 22, 23, 24, 25, 26, 27, 28, 29, 30] (by decide) rfl
              refine lv_aload_n hx hb dX5_shift_73 rfl (lv_at hl 0 rfl) ?_
              refine va_get (D := D) (ci := 5) (v := .ref (c 14)) (C := RX5) (T := TX5) (N := 7) hx hb hts hiX50 hown hK.1 hP 0 rfl rfl 3 (by decide) f2 (fun _ h9 => h9) rfl dX5_shift_74 ?_
              refine lv_iconst (v := 1) hx hb dX5_shift_77 (by decide) ?_
              refine x_tp (y := bv True) (bv_t trivial).symm ?_
              refine va_put (D := D) (ci := 1) (v := .int (bv True)) (ty := .boolean) (C := RX1) (T := TX1) (N := 15) hx hb hts hiX10 tyX1 tyX1_ok nmX1 hown hK.1 hP hD hS 14 rfl rfl 0 (by decide) f3 (fun _ h9 => h9) rfl (by decide +kernel) bv_nar bv_fits (Nat.le_of_ble_eq_true rfl) dX5_shift_78 (fun H locs hP hD hS => ?_)
              have hP : va_P D vwCl (shW c u ++ svW c cA (m + 1) lo (rShiftA a m p1 p2 p3 p4) ++ noW c cA n a ++ lyX c cA cC True X) H := hP
              have hD : va_D (va_A (shW c u ++ svW c cA m lo a ++ noW c cA n a ++ lyX c cA cC sl X) sz) (shW c u ++ svW c cA (m + 1) lo (rShiftA a m p1 p2 p3 p4) ++ noW c cA n a ++ lyX c cA cC True X) := hD
              refine lv_aload_n hx hb dX5_shift_81 rfl (lv_at hl 0 rfl) ?_
              refine va_get (D := D) (ci := 5) (v := .ref (c 1)) (C := RX5) (T := TX5) (N := 7) hx hb hts hiX50 hown hK.1 hP 0 rfl rfl 1 (by decide) f0 (fun _ h9 => h9) rfl dX5_shift_82 ?_
              refine va_get (D := D) (ci := 4) (v := .int (nI (m + 1))) (C := RX4) (T := TX4) (N := 6) hx hb hts hiX40 hown hK.1 hP 1 rfl rfl 5 (by decide) f1 (fun _ h9 => h9) rfl dX5_shift_85 ?_
              exact w_iret (S0 := cS) (w1 := cX c cA cC) (u, n, m + 1, lo, rShiftA a m p1 p2 p3 p4, True, X) hx hb hr hlk hP hD hS (by rw [mutShift, if_pos c_4, if_pos ⟨c_15, ⟨c_27, c_22.2⟩, c_38⟩, if_neg (show ¬ m = 12 by omega)] <;> rfl) dX5_shift_88
            · refine lv_sipush (v := (-1003)) hx hb dX5_shift_57 (by decide) ?_
              exact w_iret (S0 := cS) (w1 := cX c cA cC) (u, n, m, lo, a, sl, X) hx hb hr hlk hP hD hS (by rw [mutShift, if_pos c_4, if_pos ⟨c_15, ⟨c_27, c_22.2⟩, c_38⟩, if_pos (show m = 12 by omega)] <;> rfl) dX5_shift_60
          · refine lv_sipush (v := (-1002)) hx hb dX5_shift_41 (by decide) ?_
            exact w_iret (S0 := cS) (w1 := cX c cA cC) (u, n, m, lo, a, sl, X) hx hb hr hlk hP hD hS (by rw [mutShift, if_pos c_4, if_neg (fun h => c_38 h.2.2)] <;> rfl) dX5_shift_44
  · refine lv_sipush (v := (-1001)) hx hb dX5_shift_7 (by decide) ?_
    exact w_iret (S0 := cS) (w1 := cX c cA cC) (u, n, m, lo, a, sl, X) hx hb hr hlk hP hD hS (by rw [mutShift, if_neg c_4] <;> rfl) dX5_shift_10

set_option maxHeartbeats 4000000 in
set_option maxRecDepth 100000 in
theorem k5_plain (l0 : Launch) (D : va_G) (c : Nat → Nat) (cA cC : ClassId) (u : Nat → Int32) (n m : Nat) (lo : Nat → Int32) (a : Nat → Nat → Int32) (sl : Prop) (X : lS) (sz : Nat) : Met l0 yX5_plain wsX5_plain ({ frames := 0, cells := 0, slots := 0, locals := 0 }) (wPc D (shW c u ++ svW c cA m lo a ++ noW c cA n a ++ lyX c cA cC sl X) [(cA, .int), (cC, .object "StaffHeads$Chord")] sz [.ref (c 0)]) (va_Qi (fun (r : Int32) (x : cS) => (r, x) = (nI m, (u, n, 0, lo, a, True, X))) (wB D (shW c u ++ svW c cA m lo a ++ noW c cA n a ++ lyX c cA cC sl X) sz (cX c cA cC)) (va_A (shW c u ++ svW c cA m lo a ++ noW c cA n a ++ lyX c cA cC sl X) sz)) 0 0 (va_A (shW c u ++ svW c cA m lo a ++ noW c cA n a ++ lyX c cA cC sl X) sz) := by
  refine w_head (C := RX5) (cc := cX5_plain) (maxL := 2) (ret := (some .int)) [(0, .ref (c 0))] (by decide) rfl rfl (Nat.le_of_ble_eq_true rfl) rfl ?_
  intro p e s mi below meth cd hx hb hr hlk hml hown hin hts hP hD hS hA hK ls hl
  have hiX10 : ∀ w ∈ wsX10, w ∈ wsX5_plain := fun w h => List.mem_cons_of_mem _ (List.mem_append_right _ h)
  have hiX40 : ∀ w ∈ wsX40, w ∈ wsX5_plain := fun w h => List.mem_cons_of_mem _ (List.mem_append_left _ (List.mem_append_right _ h))
  have hiX50 : ∀ w ∈ wsX50, w ∈ wsX5_plain := fun w h => List.mem_cons_of_mem _ (List.mem_append_left _ (List.mem_append_left _ (List.mem_append_right _ h)))
  have f0 := hts (.fieldLink RX5 10 "StaffHeads" "staves" "LStaffHeads$Staves;") (List.mem_of_getElem? (i := 1) rfl)
  have f1 := hts (.fieldLink RX5 67 "StaffHeads$Staves" "shifts" "I") (List.mem_of_getElem? (i := 2) rfl)
  have f2 := hts (.fieldLink RX5 26 "StaffHeads" "layout" "LStaffHeads$Layout;") (List.mem_of_getElem? (i := 3) rfl)
  have f3 := hts (.fieldLink RX5 61 "StaffHeads$Layout" "stale" "Z") (List.mem_of_getElem? (i := 4) rfl)
  have hK1 : kK D [(cA, .int)] s := ⟨hK.1.sub [0] rfl, hK.2⟩
  refine lv_aload_n hx hb dX5_plain_0 rfl (lv_at hl 0 rfl) ?_
  refine va_get (D := D) (ci := 5) (v := .ref (c 1)) (C := RX5) (T := TX5) (N := 7) hx hb hts hiX50 hown hK.1 hP 0 rfl rfl 1 (by decide) f0 (fun _ h9 => h9) rfl dX5_plain_1 ?_
  refine va_get (D := D) (ci := 4) (v := .int (nI m)) (C := RX4) (T := TX4) (N := 6) hx hb hts hiX40 hown hK.1 hP 1 rfl rfl 5 (by decide) f1 (fun _ h9 => h9) rfl dX5_plain_4 ?_
  refine lv_istore_n (lv' := [(1, .int (nI m)), (0, .ref (c 0))]) hx hb dX5_plain_7 rfl hl (by decide) rfl (fun ls hl => ?_)
  refine lv_aload_n hx hb dX5_plain_8 rfl (lv_at hl 1 rfl) ?_
  refine va_get (D := D) (ci := 5) (v := .ref (c 1)) (C := RX5) (T := TX5) (N := 7) hx hb hts hiX50 hown hK.1 hP 0 rfl rfl 1 (by decide) f0 (fun _ h9 => h9) rfl dX5_plain_9 ?_
  refine lv_iconst (v := 0) hx hb dX5_plain_12 (by decide) ?_
  refine x_tp (y := nI 0) nI_0.symm ?_
  refine va_put (D := D) (ci := 4) (v := .int (nI 0)) (ty := .int) (C := RX4) (T := TX4) (N := 6) hx hb hts hiX40 tyX4 tyX4_ok nmX4 hown hK.1 hP hD hS 1 rfl rfl 5 (by decide) f1 (fun _ h9 => h9) rfl (by decide +kernel) rfl rfl (Nat.le_of_ble_eq_true rfl) dX5_plain_13 (fun H locs hP hD hS => ?_)
  have hP : va_P D vwCl (shW c u ++ svW c cA 0 lo a ++ noW c cA n a ++ lyX c cA cC sl X) H := hP
  have hD : va_D (va_A (shW c u ++ svW c cA m lo a ++ noW c cA n a ++ lyX c cA cC sl X) sz) (shW c u ++ svW c cA 0 lo a ++ noW c cA n a ++ lyX c cA cC sl X) := hD
  refine lv_aload_n hx hb dX5_plain_16 rfl (lv_at hl 1 rfl) ?_
  refine va_get (D := D) (ci := 5) (v := .ref (c 14)) (C := RX5) (T := TX5) (N := 7) hx hb hts hiX50 hown hK.1 hP 0 rfl rfl 3 (by decide) f2 (fun _ h9 => h9) rfl dX5_plain_17 ?_
  refine lv_iconst (v := 1) hx hb dX5_plain_20 (by decide) ?_
  refine x_tp (y := bv True) (bv_t trivial).symm ?_
  refine va_put (D := D) (ci := 1) (v := .int (bv True)) (ty := .boolean) (C := RX1) (T := TX1) (N := 15) hx hb hts hiX10 tyX1 tyX1_ok nmX1 hown hK.1 hP hD hS 14 rfl rfl 0 (by decide) f3 (fun _ h9 => h9) rfl (by decide +kernel) bv_nar bv_fits (Nat.le_of_ble_eq_true rfl) dX5_plain_21 (fun H locs hP hD hS => ?_)
  have hP : va_P D vwCl (shW c u ++ svW c cA 0 lo a ++ noW c cA n a ++ lyX c cA cC True X) H := hP
  have hD : va_D (va_A (shW c u ++ svW c cA m lo a ++ noW c cA n a ++ lyX c cA cC sl X) sz) (shW c u ++ svW c cA 0 lo a ++ noW c cA n a ++ lyX c cA cC True X) := hD
  refine lv_iload_n hx hb dX5_plain_24 rfl (lv_at hl 0 rfl) ?_
  exact w_iret (S0 := cS) (w1 := cX c cA cC) (u, n, 0, lo, a, True, X) hx hb hr hlk hP hD hS rfl dX5_plain_25

set_option maxHeartbeats 4000000 in
set_option maxRecDepth 100000 in
theorem k5_note (l0 : Launch) (D : va_G) (c : Nat → Nat) (cA cC : ClassId) (u : Nat → Int32) (n m : Nat) (lo : Nat → Int32) (a : Nat → Nat → Int32) (sl : Prop) (X : lS) (sz : Nat) (p1 p2 p3 p4 p5 p6 p7 : Int32) (hn : n ≤ 60) : Met l0 yX5_note wsX5_note ({ frames := 2, cells := 0, slots := 0, locals := 43 }) (wPc D (shW c u ++ svW c cA m lo a ++ noW c cA n a ++ lyX c cA cC sl X) [(cA, .int), (cC, .object "StaffHeads$Chord")] sz [.ref (c 0), .int p1, .int p2, .int p3, .int p4, .int p5, .int p6, .int p7]) (va_Qi (fun (r : Int32) (x : cS) => (r, x) = mutNote n p1 p2 p3 p4 p5 p6 p7 (u, n, m, lo, a, sl, X) (u, n + 1, m, lo, rNoteA a n p1 p2 p3 p4 p5 p6 p7, True, X)) (wB D (shW c u ++ svW c cA m lo a ++ noW c cA n a ++ lyX c cA cC sl X) sz (cX c cA cC)) (va_A (shW c u ++ svW c cA m lo a ++ noW c cA n a ++ lyX c cA cC sl X) sz)) 0 0 (va_A (shW c u ++ svW c cA m lo a ++ noW c cA n a ++ lyX c cA cC sl X) sz) := by
  refine w_head (C := RX5) (cc := cX5_note) (maxL := 8) (ret := (some .int)) [(0, .ref (c 0)), (1, .int p1), (2, .int p2), (3, .int p3), (4, .int p4), (5, .int p5), (6, .int p6), (7, .int p7)] (by decide) rfl rfl (Nat.le_of_ble_eq_true rfl) rfl ?_
  intro p e s mi below meth cd hx hb hr hlk hml hown hin hts hP hD hS hA hK ls hl
  have hiX10 : ∀ w ∈ wsX10, w ∈ wsX5_note := fun w h => List.mem_cons_of_mem _ (List.mem_append_right _ h)
  have hiX20 : ∀ w ∈ wsX20, w ∈ wsX5_note := fun w h => List.mem_cons_of_mem _ (List.mem_append_left _ (List.mem_append_right _ h))
  have hiX50 : ∀ w ∈ wsX50, w ∈ wsX5_note := fun w h => List.mem_cons_of_mem _ (List.mem_append_left _ (List.mem_append_left _ (List.mem_append_right _ h)))
  have f0 := hts (.fieldLink RX5 19 "StaffHeads" "notes" "LStaffHeads$Notes;") (List.mem_of_getElem? (i := 1) rfl)
  have f1 := hts (.fieldLink RX5 78 "StaffHeads$Notes" "count" "I") (List.mem_of_getElem? (i := 2) rfl)
  have f2 := hts (.fieldLink RX5 26 "StaffHeads" "layout" "LStaffHeads$Layout;") (List.mem_of_getElem? (i := 3) rfl)
  have f3 := hts (.fieldLink RX5 61 "StaffHeads$Layout" "stale" "Z") (List.mem_of_getElem? (i := 4) rfl)
  have hK1 : kK D [(cA, .int)] s := ⟨hK.1.sub [0] rfl, hK.2⟩
  refine lv_iload_n hx hb dX5_note_0 rfl (lv_at hl 1 rfl) ?_
  refine rcSi (As := [.int p1]) (rest := []) ⟨hx, hb, hml, hown, hts⟩ (k5_isStaff l0 p1) (va_cwS 1 hts gX5_note_X5_isStaff rfl rfl rfl (by decide +kernel) ⟨Nat.le_of_ble_eq_true rfl, Nat.le_of_ble_eq_true rfl⟩) rfl hl.1 rfl (Nat.le_of_ble_eq_true rfl) dX5_note_1 ⟨Nat.zero_le _, Nat.zero_le _⟩ ?_
  refine x_ifne (tgt := 11) hx hb dX5_note_4 (by decide) (fun (c_4 : okI p1 0 3) => ?_) (fun (c_4 : ¬ (okI p1 0 3)) => ?_)
  · refine lv_iload_n hx hb dX5_note_11 rfl (lv_at hl 2 rfl) ?_
    refine lv_iconst (v := 0) hx hb dX5_note_12 (by decide) ?_
    refine lv_iconst (v := 2) hx hb dX5_note_13 (by decide) ?_
    refine rcSi (As := [.int p2, .int 0, .int 2]) (rest := []) ⟨hx, hb, hml, hown, hts⟩ (k5_within l0 p2 0 2) (va_cwS 3 hts gX5_note_X5_within rfl rfl rfl (by decide +kernel) ⟨Nat.le_of_ble_eq_true rfl, Nat.le_of_ble_eq_true rfl⟩) rfl hl.1 rfl (Nat.le_of_ble_eq_true rfl) dX5_note_14 ⟨Nat.zero_le _, Nat.zero_le _⟩ ?_
    refine x_ifeq (tgt := 58) hx hb dX5_note_17 (by decide) (fun (c_17 : ¬ (okI p2 0 2)) => ?_) (fun (c_17 : okI p2 0 2) => ?_)
    · refine lv_sipush (v := (-1002)) hx hb dX5_note_58 (by decide) ?_
      exact w_iret (S0 := cS) (w1 := cX c cA cC) (u, n, m, lo, a, sl, X) hx hb hr hlk hP hD hS (by rw [mutNote, if_pos c_4, if_neg (fun h => c_17 h.1)] <;> rfl) dX5_note_61
    · refine lv_iload_n hx hb dX5_note_20 rfl (lv_at hl 3 rfl) ?_
      refine rcSi (As := [.int p3]) (rest := []) ⟨hx, hb, hml, hown, hts⟩ (k5_isTick l0 p3) (va_cwS 1 hts gX5_note_X5_isTick rfl rfl rfl (by decide +kernel) ⟨Nat.le_of_ble_eq_true rfl, Nat.le_of_ble_eq_true rfl⟩) rfl hl.1 rfl (Nat.le_of_ble_eq_true rfl) dX5_note_21 ⟨Nat.zero_le _, Nat.zero_le _⟩ ?_
      refine x_ifeq (tgt := 58) hx hb dX5_note_24 (by decide) (fun (c_24 : ¬ (okI p3 0 99)) => ?_) (fun (c_24 : okI p3 0 99) => ?_)
      · refine lv_sipush (v := (-1002)) hx hb dX5_note_58 (by decide) ?_
        exact w_iret (S0 := cS) (w1 := cX c cA cC) (u, n, m, lo, a, sl, X) hx hb hr hlk hP hD hS (by rw [mutNote, if_pos c_4, if_neg (fun h => c_24 h.2.1)] <;> rfl) dX5_note_61
      · refine lv_iload hx hb dX5_note_27 (lv_at hl 4 rfl) ?_
        refine lv_iload hx hb dX5_note_29 (lv_at hl 5 rfl) ?_
        refine rcSi (As := [.int p4, .int p5]) (rest := []) ⟨hx, hb, hml, hown, hts⟩ (k5_isPitch l0 p4 p5) (va_cwS 2 hts gX5_note_X5_isPitch rfl rfl rfl (by decide +kernel) ⟨Nat.le_of_ble_eq_true rfl, Nat.le_of_ble_eq_true rfl⟩) rfl hl.1 rfl (Nat.le_of_ble_eq_true rfl) dX5_note_31 ⟨Nat.zero_le _, Nat.zero_le _⟩ ?_
        refine x_ifeq (tgt := 58) hx hb dX5_note_34 (by decide) (fun (c_34 : ¬ (okI p4 0 6 ∧ okI p5 0 9)) => ?_) (fun (c_34 : okI p4 0 6 ∧ okI p5 0 9) => ?_)
        · refine lv_sipush (v := (-1002)) hx hb dX5_note_58 (by decide) ?_
          exact w_iret (S0 := cS) (w1 := cX c cA cC) (u, n, m, lo, a, sl, X) hx hb hr hlk hP hD hS (by rw [mutNote, if_pos c_4, if_neg (fun h => c_34 ⟨h.2.2.1, h.2.2.2.1⟩)] <;> rfl) dX5_note_61
        · refine lv_iload hx hb dX5_note_37 (lv_at hl 6 rfl) ?_
          refine lv_bipush (v := (-2)) hx hb dX5_note_39 (by decide) ?_
          refine lv_iconst (v := 3) hx hb dX5_note_41 (by decide) ?_
          refine rcSi (As := [.int p6, .int (-2), .int 3]) (rest := []) ⟨hx, hb, hml, hown, hts⟩ (k5_within l0 p6 (-2) 3) (va_cwS 3 hts gX5_note_X5_within rfl rfl rfl (by decide +kernel) ⟨Nat.le_of_ble_eq_true rfl, Nat.le_of_ble_eq_true rfl⟩) rfl hl.1 rfl (Nat.le_of_ble_eq_true rfl) dX5_note_42 ⟨Nat.zero_le _, Nat.zero_le _⟩ ?_
          refine x_ifeq (tgt := 58) hx hb dX5_note_45 (by decide) (fun (c_45 : ¬ (okI p6 (-2) 3)) => ?_) (fun (c_45 : okI p6 (-2) 3) => ?_)
          · refine lv_sipush (v := (-1002)) hx hb dX5_note_58 (by decide) ?_
            exact w_iret (S0 := cS) (w1 := cX c cA cC) (u, n, m, lo, a, sl, X) hx hb hr hlk hP hD hS (by rw [mutNote, if_pos c_4, if_neg (fun h => c_45 h.2.2.2.2.1)] <;> rfl) dX5_note_61
          · refine lv_iload hx hb dX5_note_48 (lv_at hl 7 rfl) ?_
            refine lv_iconst (v := 0) hx hb dX5_note_50 (by decide) ?_
            refine lv_iconst (v := 2) hx hb dX5_note_51 (by decide) ?_
            refine rcSi (As := [.int p7, .int 0, .int 2]) (rest := []) ⟨hx, hb, hml, hown, hts⟩ (k5_within l0 p7 0 2) (va_cwS 3 hts gX5_note_X5_within rfl rfl rfl (by decide +kernel) ⟨Nat.le_of_ble_eq_true rfl, Nat.le_of_ble_eq_true rfl⟩) rfl hl.1 rfl (Nat.le_of_ble_eq_true rfl) dX5_note_52 ⟨Nat.zero_le _, Nat.zero_le _⟩ ?_
            refine x_ifne (tgt := 62) hx hb dX5_note_55 (by decide) (fun (c_55 : okI p7 0 2) => ?_) (fun (c_55 : ¬ (okI p7 0 2)) => ?_)
            · refine lv_aload_n hx hb dX5_note_62 rfl (lv_at hl 0 rfl) ?_
              refine va_get (D := D) (ci := 5) (v := .ref (c 7)) (C := RX5) (T := TX5) (N := 7) hx hb hts hiX50 hown hK.1 hP 0 rfl rfl 2 (by decide) f0 (fun _ h9 => h9) rfl dX5_note_63 ?_
              refine va_get (D := D) (ci := 2) (v := .int (nI n)) (C := RX2) (T := TX2) (N := 7) hx hb hts hiX20 hown hK.1 hP 7 rfl rfl 6 (by decide) f1 (fun _ h9 => h9) rfl dX5_note_66 ?_
              refine lv_bipush (v := 60) hx hb dX5_note_69 (by decide) ?_
              refine x_tp (y := nI 60) (show (60 : Int32) = nI 60 from rfl) ?_
              refine x_nlt (tgt := 78) hx hb dX5_note_71 (by decide) (by omega) (by omega) (fun c_71 => ?_) (fun c_71 => ?_)
              · refine lv_aload_n hx hb dX5_note_78 rfl (lv_at hl 0 rfl) ?_
                refine va_get (D := D) (ci := 5) (v := .ref (c 7)) (C := RX5) (T := TX5) (N := 7) hx hb hts hiX50 hown hK.1 hP 0 rfl rfl 2 (by decide) f0 (fun _ h9 => h9) rfl dX5_note_79 ?_
                refine lv_iload_n hx hb dX5_note_82 rfl (lv_at hl 1 rfl) ?_
                refine lv_iload_n hx hb dX5_note_83 rfl (lv_at hl 2 rfl) ?_
                refine lv_iload_n hx hb dX5_note_84 rfl (lv_at hl 3 rfl) ?_
                refine lv_bipush (v := 7) hx hb dX5_note_85 (by decide) ?_
                refine lv_iload hx hb dX5_note_87 (lv_at hl 5 rfl) ?_
                refine lv_imul hx hb dX5_note_89 ?_
                refine lv_iload hx hb dX5_note_90 (lv_at hl 4 rfl) ?_
                refine lv_iadd hx hb dX5_note_92 ?_
                refine lv_iload hx hb dX5_note_93 (lv_at hl 6 rfl) ?_
                refine lv_iload hx hb dX5_note_95 (lv_at hl 7 rfl) ?_
                refine wcVv (S0 := Unit) (wr := shW c u ++ svW c cA m lo a ++ lyX c cA cC sl X) (As := [.int p1, .int p2, .int p3, .int ((7 * p5) + p4), .int p6, .int p7]) (rest := []) ⟨hx, hb, hml, hown, hts⟩ (k2_add l0 D c cA n a _ p1 p2 p3 ((7 * p5) + p4) p6 p7 (by omega)) (cwV 6 hts gX5_note_X2_add rfl rfl rfl (by decide +kernel) ⟨Nat.le_of_ble_eq_true rfl, Nat.le_of_ble_eq_true rfl⟩) (va_recv hK.1 hP (ci := 2) (q0 := 7) rfl rfl) hP hD hS hA hK1 [7, 8, 9, 10, 11, 12, 13] [0, 1, 2, 3, 4, 5, 6, 14, 15, 16, 17, 18, 19, 20, 21, 22, 23, 24, 25, 26, 27, 28, 29, 30, 31, 32, 33, 34, 35, 36] rfl rfl (by decide) (by decide) (by decide) rfl hl.1 rfl (Nat.le_of_ble_eq_true rfl) dX5_note_97 ⟨Nat.zero_le _, Nat.zero_le _⟩ (fun _ H locs _ hP hD hS => ?_)
                have hP : va_P D vwCl (shW c u ++ svW c cA m lo a ++ noW c cA (n + 1) (rNoteA a n p1 p2 p3 p4 p5 p6 p7) ++ lyX c cA cC sl X) H := hP.sub [0, 1, 2, 3, 4, 5, 6, 30, 31, 32, 33, 34, 35, 36, 7, 8, 9, 10, 11, 12, 13, 14, 15, 16, 17, 18, 19, 20, 21, 22, 23, 24, 25, 26, 27, 28, 29] rfl
                have hD : va_D (va_A (shW c u ++ svW c cA m lo a ++ noW c cA n a ++ lyX c cA cC sl X) sz) (shW c u ++ svW c cA m lo a ++ noW c cA (n + 1) (rNoteA a n p1 p2 p3 p4 p5 p6 p7) ++ lyX c cA cC sl X) := hD.sub [0, 1, 2, 3, 4, 5, 6, 30, 31, 32, 33, 34, 35, 36, 7, 8, 9, 10, 11, 12, 13, 14, 15, 16, 17, 18, 19, 20, 21, 22, 23, 24, 25, 26, 27, 28, 29] (by decide) rfl
                refine lv_aload_n hx hb dX5_note_100 rfl (lv_at hl 0 rfl) ?_
                refine va_get (D := D) (ci := 5) (v := .ref (c 14)) (C := RX5) (T := TX5) (N := 7) hx hb hts hiX50 hown hK.1 hP 0 rfl rfl 3 (by decide) f2 (fun _ h9 => h9) rfl dX5_note_101 ?_
                refine lv_iconst (v := 1) hx hb dX5_note_104 (by decide) ?_
                refine x_tp (y := bv True) (bv_t trivial).symm ?_
                refine va_put (D := D) (ci := 1) (v := .int (bv True)) (ty := .boolean) (C := RX1) (T := TX1) (N := 15) hx hb hts hiX10 tyX1 tyX1_ok nmX1 hown hK.1 hP hD hS 14 rfl rfl 0 (by decide) f3 (fun _ h9 => h9) rfl (by decide +kernel) bv_nar bv_fits (Nat.le_of_ble_eq_true rfl) dX5_note_105 (fun H locs hP hD hS => ?_)
                have hP : va_P D vwCl (shW c u ++ svW c cA m lo a ++ noW c cA (n + 1) (rNoteA a n p1 p2 p3 p4 p5 p6 p7) ++ lyX c cA cC True X) H := hP
                have hD : va_D (va_A (shW c u ++ svW c cA m lo a ++ noW c cA n a ++ lyX c cA cC sl X) sz) (shW c u ++ svW c cA m lo a ++ noW c cA (n + 1) (rNoteA a n p1 p2 p3 p4 p5 p6 p7) ++ lyX c cA cC True X) := hD
                refine lv_aload_n hx hb dX5_note_108 rfl (lv_at hl 0 rfl) ?_
                refine va_get (D := D) (ci := 5) (v := .ref (c 7)) (C := RX5) (T := TX5) (N := 7) hx hb hts hiX50 hown hK.1 hP 0 rfl rfl 2 (by decide) f0 (fun _ h9 => h9) rfl dX5_note_109 ?_
                refine va_get (D := D) (ci := 2) (v := .int (nI (n + 1))) (C := RX2) (T := TX2) (N := 7) hx hb hts hiX20 hown hK.1 hP 7 rfl rfl 6 (by decide) f1 (fun _ h9 => h9) rfl dX5_note_112 ?_
                refine lv_iconst (v := 1) hx hb dX5_note_115 (by decide) ?_
                refine lv_isub hx hb dX5_note_116 ?_
                refine x_tp (y := nI n) (nI_pred n) ?_
                exact w_iret (S0 := cS) (w1 := cX c cA cC) (u, n + 1, m, lo, rNoteA a n p1 p2 p3 p4 p5 p6 p7, True, X) hx hb hr hlk hP hD hS (by rw [mutNote, if_pos c_4, if_pos ⟨c_17, c_24, c_34.1, c_34.2, c_45, c_55⟩, if_neg (show ¬ n = 60 by omega)] <;> rfl) dX5_note_117
              · refine lv_sipush (v := (-1003)) hx hb dX5_note_74 (by decide) ?_
                exact w_iret (S0 := cS) (w1 := cX c cA cC) (u, n, m, lo, a, sl, X) hx hb hr hlk hP hD hS (by rw [mutNote, if_pos c_4, if_pos ⟨c_17, c_24, c_34.1, c_34.2, c_45, c_55⟩, if_pos (show n = 60 by omega)] <;> rfl) dX5_note_77
            · refine lv_sipush (v := (-1002)) hx hb dX5_note_58 (by decide) ?_
              exact w_iret (S0 := cS) (w1 := cX c cA cC) (u, n, m, lo, a, sl, X) hx hb hr hlk hP hD hS (by rw [mutNote, if_pos c_4, if_neg (fun h => c_55 h.2.2.2.2.2)] <;> rfl) dX5_note_61
  · refine lv_sipush (v := (-1001)) hx hb dX5_note_7 (by decide) ?_
    exact w_iret (S0 := cS) (w1 := cX c cA cC) (u, n, m, lo, a, sl, X) hx hb hr hlk hP hD hS (by rw [mutNote, if_neg c_4] <;> rfl) dX5_note_10

set_option maxHeartbeats 4000000 in
set_option maxRecDepth 100000 in
theorem k5_drop (l0 : Launch) (D : va_G) (c : Nat → Nat) (cA cC : ClassId) (u : Nat → Int32) (n m : Nat) (lo : Nat → Int32) (a : Nat → Nat → Int32) (sl : Prop) (X : lS) (sz : Nat) (p1 : Int32) (hn : n ≤ 60) : Met l0 yX5_drop wsX5_drop ({ frames := 2, cells := 0, slots := 0, locals := 43 }) (wPc D (shW c u ++ svW c cA m lo a ++ noW c cA n a ++ lyX c cA cC sl X) [(cA, .int), (cC, .object "StaffHeads$Chord")] sz [.ref (c 0), .int p1]) (va_Qi (fun (r : Int32) (x : cS) => (r, x) = mutDrop n p1 (u, n, m, lo, a, sl, X) (u, n - 1, m, lo, rDrA a p1.toNatClampNeg (n - 1 - p1.toNatClampNeg), True, X)) (wB D (shW c u ++ svW c cA m lo a ++ noW c cA n a ++ lyX c cA cC sl X) sz (cX c cA cC)) (va_A (shW c u ++ svW c cA m lo a ++ noW c cA n a ++ lyX c cA cC sl X) sz)) 0 0 (va_A (shW c u ++ svW c cA m lo a ++ noW c cA n a ++ lyX c cA cC sl X) sz) := by
  refine w_head (C := RX5) (cc := cX5_drop) (maxL := 2) (ret := (some .int)) [(0, .ref (c 0)), (1, .int p1)] (by decide) rfl rfl (Nat.le_of_ble_eq_true rfl) rfl ?_
  intro p e s mi below meth cd hx hb hr hlk hml hown hin hts hP hD hS hA hK ls hl
  have hiX10 : ∀ w ∈ wsX10, w ∈ wsX5_drop := fun w h => List.mem_cons_of_mem _ (List.mem_append_left _ (List.mem_append_right _ h))
  have hiX20 : ∀ w ∈ wsX20, w ∈ wsX5_drop := fun w h => List.mem_cons_of_mem _ (List.mem_append_right _ h)
  have hiX50 : ∀ w ∈ wsX50, w ∈ wsX5_drop := fun w h => List.mem_cons_of_mem _ (List.mem_append_left _ (List.mem_append_left _ (List.mem_append_right _ h)))
  have f0 := hts (.fieldLink RX5 19 "StaffHeads" "notes" "LStaffHeads$Notes;") (List.mem_of_getElem? (i := 1) rfl)
  have f1 := hts (.fieldLink RX5 26 "StaffHeads" "layout" "LStaffHeads$Layout;") (List.mem_of_getElem? (i := 2) rfl)
  have f2 := hts (.fieldLink RX5 61 "StaffHeads$Layout" "stale" "Z") (List.mem_of_getElem? (i := 3) rfl)
  have f3 := hts (.fieldLink RX5 78 "StaffHeads$Notes" "count" "I") (List.mem_of_getElem? (i := 4) rfl)
  have hK1 : kK D [(cA, .int)] s := ⟨hK.1.sub [0] rfl, hK.2⟩
  refine lv_aload_n hx hb dX5_drop_0 rfl (lv_at hl 0 rfl) ?_
  refine va_get (D := D) (ci := 5) (v := .ref (c 7)) (C := RX5) (T := TX5) (N := 7) hx hb hts hiX50 hown hK.1 hP 0 rfl rfl 2 (by decide) f0 (fun _ h9 => h9) rfl dX5_drop_1 ?_
  refine lv_iload_n hx hb dX5_drop_4 rfl (lv_at hl 1 rfl) ?_
  refine rcVi (As := [.int p1]) (rest := []) ⟨hx, hb, hml, hown, hts⟩ (k2_has l0 D c cA n a p1 ) (cwV 1 hts gX5_drop_X2_has rfl rfl rfl (by decide +kernel) ⟨Nat.le_of_ble_eq_true rfl, Nat.le_of_ble_eq_true rfl⟩) (va_recv hK.1 hP (ci := 2) (q0 := 7) rfl rfl) (hP.sub [7, 8, 9, 10, 11, 12, 13] rfl) hK1 rfl hl.1 rfl (Nat.le_of_ble_eq_true rfl) dX5_drop_5 ⟨Nat.zero_le _, Nat.zero_le _⟩ ?_
  refine x_ifne (tgt := 15) hx hb dX5_drop_8 (by decide) (fun (c_8 : okI p1 0 (nI n - 1)) => ?_) (fun (c_8 : ¬ (okI p1 0 (nI n - 1))) => ?_)
  · have hj := ok_note hn c_8
    refine lv_aload_n hx hb dX5_drop_15 rfl (lv_at hl 0 rfl) ?_
    refine va_get (D := D) (ci := 5) (v := .ref (c 7)) (C := RX5) (T := TX5) (N := 7) hx hb hts hiX50 hown hK.1 hP 0 rfl rfl 2 (by decide) f0 (fun _ h9 => h9) rfl dX5_drop_16 ?_
    refine lv_iload_n hx hb dX5_drop_19 rfl (lv_at hl 1 rfl) ?_
    refine x_tp (y := nI p1.toNatClampNeg) hj.1 ?_
    refine wcVv (S0 := Unit) (wr := shW c u ++ svW c cA m lo a ++ lyX c cA cC sl X) (As := [.int (nI p1.toNatClampNeg)]) (rest := []) ⟨hx, hb, hml, hown, hts⟩ (k2_remove l0 D c cA n a _ p1.toNatClampNeg hn hj.2) (cwV 1 hts gX5_drop_X2_remove rfl rfl rfl (by decide +kernel) ⟨Nat.le_of_ble_eq_true rfl, Nat.le_of_ble_eq_true rfl⟩) (va_recv hK.1 hP (ci := 2) (q0 := 7) rfl rfl) hP hD hS hA hK1 [7, 8, 9, 10, 11, 12, 13] [0, 1, 2, 3, 4, 5, 6, 14, 15, 16, 17, 18, 19, 20, 21, 22, 23, 24, 25, 26, 27, 28, 29, 30, 31, 32, 33, 34, 35, 36] rfl rfl (by decide) (by decide) (by decide) rfl hl.1 rfl (Nat.le_of_ble_eq_true rfl) dX5_drop_20 ⟨Nat.zero_le _, Nat.zero_le _⟩ (fun _ H locs _ hP hD hS => ?_)
    have hP : va_P D vwCl (shW c u ++ svW c cA m lo a ++ noW c cA (n - 1) (rDrA a p1.toNatClampNeg (n - 1 - p1.toNatClampNeg)) ++ lyX c cA cC sl X) H := hP.sub [0, 1, 2, 3, 4, 5, 6, 30, 31, 32, 33, 34, 35, 36, 7, 8, 9, 10, 11, 12, 13, 14, 15, 16, 17, 18, 19, 20, 21, 22, 23, 24, 25, 26, 27, 28, 29] rfl
    have hD : va_D (va_A (shW c u ++ svW c cA m lo a ++ noW c cA n a ++ lyX c cA cC sl X) sz) (shW c u ++ svW c cA m lo a ++ noW c cA (n - 1) (rDrA a p1.toNatClampNeg (n - 1 - p1.toNatClampNeg)) ++ lyX c cA cC sl X) := hD.sub [0, 1, 2, 3, 4, 5, 6, 30, 31, 32, 33, 34, 35, 36, 7, 8, 9, 10, 11, 12, 13, 14, 15, 16, 17, 18, 19, 20, 21, 22, 23, 24, 25, 26, 27, 28, 29] (by decide) rfl
    refine lv_aload_n hx hb dX5_drop_23 rfl (lv_at hl 0 rfl) ?_
    refine va_get (D := D) (ci := 5) (v := .ref (c 14)) (C := RX5) (T := TX5) (N := 7) hx hb hts hiX50 hown hK.1 hP 0 rfl rfl 3 (by decide) f1 (fun _ h9 => h9) rfl dX5_drop_24 ?_
    refine lv_iconst (v := 1) hx hb dX5_drop_27 (by decide) ?_
    refine x_tp (y := bv True) (bv_t trivial).symm ?_
    refine va_put (D := D) (ci := 1) (v := .int (bv True)) (ty := .boolean) (C := RX1) (T := TX1) (N := 15) hx hb hts hiX10 tyX1 tyX1_ok nmX1 hown hK.1 hP hD hS 14 rfl rfl 0 (by decide) f2 (fun _ h9 => h9) rfl (by decide +kernel) bv_nar bv_fits (Nat.le_of_ble_eq_true rfl) dX5_drop_28 (fun H locs hP hD hS => ?_)
    have hP : va_P D vwCl (shW c u ++ svW c cA m lo a ++ noW c cA (n - 1) (rDrA a p1.toNatClampNeg (n - 1 - p1.toNatClampNeg)) ++ lyX c cA cC True X) H := hP
    have hD : va_D (va_A (shW c u ++ svW c cA m lo a ++ noW c cA n a ++ lyX c cA cC sl X) sz) (shW c u ++ svW c cA m lo a ++ noW c cA (n - 1) (rDrA a p1.toNatClampNeg (n - 1 - p1.toNatClampNeg)) ++ lyX c cA cC True X) := hD
    refine lv_aload_n hx hb dX5_drop_31 rfl (lv_at hl 0 rfl) ?_
    refine va_get (D := D) (ci := 5) (v := .ref (c 7)) (C := RX5) (T := TX5) (N := 7) hx hb hts hiX50 hown hK.1 hP 0 rfl rfl 2 (by decide) f0 (fun _ h9 => h9) rfl dX5_drop_32 ?_
    refine va_get (D := D) (ci := 2) (v := .int (nI (n - 1))) (C := RX2) (T := TX2) (N := 7) hx hb hts hiX20 hown hK.1 hP 7 rfl rfl 6 (by decide) f3 (fun _ h9 => h9) rfl dX5_drop_35 ?_
    exact w_iret (S0 := cS) (w1 := cX c cA cC) (u, n - 1, m, lo, rDrA a p1.toNatClampNeg (n - 1 - p1.toNatClampNeg), True, X) hx hb hr hlk hP hD hS (by rw [mutDrop, if_pos c_8] <;> rfl) dX5_drop_38
  · refine lv_sipush (v := (-1001)) hx hb dX5_drop_11 (by decide) ?_
    exact w_iret (S0 := cS) (w1 := cX c cA cC) (u, n, m, lo, a, sl, X) hx hb hr hlk hP hD hS (by rw [mutDrop, if_neg c_8] <;> rfl) dX5_drop_14

set_option maxHeartbeats 4000000 in
set_option maxRecDepth 100000 in
theorem k5_setting (l0 : Launch) (D : va_G) (c : Nat → Nat) (cA cC : ClassId) (u : Nat → Int32) (n m : Nat) (lo : Nat → Int32) (a : Nat → Nat → Int32) (sl : Prop) (X : lS) (sz : Nat) (p1 p2 : Int32) : Met l0 yX5_setting wsX5_setting ({ frames := 1, cells := 0, slots := 0, locals := 22 }) (wPc D (shW c u ++ svW c cA m lo a ++ noW c cA n a ++ lyX c cA cC sl X) [(cA, .int), (cC, .object "StaffHeads$Chord")] sz [.ref (c 0), .int p1, .int p2]) (va_Qi (fun (r : Int32) (x : cS) => (r, x) = mutSet p1 p2 (u 2) (u 3) (u, n, m, lo, a, sl, X) (va_up u 2 p2, n, m, lo, a, sl, X) (va_up u 3 p2, n, m, lo, a, sl, X)) (wB D (shW c u ++ svW c cA m lo a ++ noW c cA n a ++ lyX c cA cC sl X) sz (cX c cA cC)) (va_A (shW c u ++ svW c cA m lo a ++ noW c cA n a ++ lyX c cA cC sl X) sz)) 0 0 (va_A (shW c u ++ svW c cA m lo a ++ noW c cA n a ++ lyX c cA cC sl X) sz) := by
  refine w_head (C := RX5) (cc := cX5_setting) (maxL := 4) (ret := (some .int)) [(0, .ref (c 0)), (1, .int p1), (2, .int p2)] (by decide) rfl rfl (Nat.le_of_ble_eq_true rfl) rfl ?_
  intro p e s mi below meth cd hx hb hr hlk hml hown hin hts hP hD hS hA hK ls hl
  have hiX50 : ∀ w ∈ wsX50, w ∈ wsX5_setting := fun w h => List.mem_cons_of_mem _ (List.mem_append_right _ h)
  have f0 := hts (.fieldLink RX5 34 "StaffHeads" "least" "I") (List.mem_of_getElem? (i := 2) rfl)
  have f1 := hts (.fieldLink RX5 30 "StaffHeads" "pad" "I") (List.mem_of_getElem? (i := 1) rfl)
  have hK1 : kK D [(cA, .int)] s := ⟨hK.1.sub [0] rfl, hK.2⟩
  refine lv_iload_n hx hb dX5_setting_0 rfl (lv_at hl 1 rfl) ?_
  refine lv_iconst (v := 0) hx hb dX5_setting_1 (by decide) ?_
  refine lv_iconst (v := 1) hx hb dX5_setting_2 (by decide) ?_
  refine rcSi (As := [.int p1, .int 0, .int 1]) (rest := []) ⟨hx, hb, hml, hown, hts⟩ (k5_within l0 p1 0 1) (va_cwS 3 hts gX5_setting_X5_within rfl rfl rfl (by decide +kernel) ⟨Nat.le_of_ble_eq_true rfl, Nat.le_of_ble_eq_true rfl⟩) rfl hl.1 rfl (Nat.le_of_ble_eq_true rfl) dX5_setting_3 ⟨Nat.zero_le _, Nat.zero_le _⟩ ?_
  refine x_ifeq (tgt := 19) hx hb dX5_setting_6 (by decide) (fun (c_6 : ¬ (okI p1 0 1)) => ?_) (fun (c_6 : okI p1 0 1) => ?_)
  · refine lv_sipush (v := (-1002)) hx hb dX5_setting_19 (by decide) ?_
    exact w_iret (S0 := cS) (w1 := cX c cA cC) (u, n, m, lo, a, sl, X) hx hb hr hlk hP hD hS (by rw [mutSet, if_neg (fun h => c_6 h.1)] <;> rfl) dX5_setting_22
  · refine lv_iload_n hx hb dX5_setting_9 rfl (lv_at hl 2 rfl) ?_
    refine lv_iconst (v := 0) hx hb dX5_setting_10 (by decide) ?_
    refine lv_bipush (v := 100) hx hb dX5_setting_11 (by decide) ?_
    refine rcSi (As := [.int p2, .int 0, .int 100]) (rest := []) ⟨hx, hb, hml, hown, hts⟩ (k5_within l0 p2 0 100) (va_cwS 3 hts gX5_setting_X5_within rfl rfl rfl (by decide +kernel) ⟨Nat.le_of_ble_eq_true rfl, Nat.le_of_ble_eq_true rfl⟩) rfl hl.1 rfl (Nat.le_of_ble_eq_true rfl) dX5_setting_13 ⟨Nat.zero_le _, Nat.zero_le _⟩ ?_
    refine x_ifne (tgt := 23) hx hb dX5_setting_16 (by decide) (fun (c_16 : okI p2 0 100) => ?_) (fun (c_16 : ¬ (okI p2 0 100)) => ?_)
    · refine lv_iload_n hx hb dX5_setting_23 rfl (lv_at hl 1 rfl) ?_
      refine lv_if_ne (tgt := 34) hx hb dX5_setting_24 (by decide) (fun c_24 => ?_) (fun c_24 => ?_)
      · refine lv_aload_n hx hb dX5_setting_34 rfl (lv_at hl 0 rfl) ?_
        refine va_get (D := D) (ci := 5) (v := .int (u 3)) (C := RX5) (T := TX5) (N := 7) hx hb hts hiX50 hown hK.1 hP 0 rfl rfl 5 (by decide) f0 (fun _ h9 => h9) rfl dX5_setting_35 ?_
        refine lv_istore_n (lv' := [(3, .int (u 3)), (0, .ref (c 0)), (1, .int p1), (2, .int p2)]) hx hb dX5_setting_38 rfl hl (by decide) rfl (fun ls hl => ?_)
        refine lv_iload_n hx hb dX5_setting_39 rfl (lv_at hl 2 rfl) ?_
        refine lv_if_ne (tgt := 51) hx hb dX5_setting_40 (by decide) (fun c_40 => ?_) (fun c_40 => ?_)
        · refine lv_aload_n hx hb dX5_setting_51 rfl (lv_at hl 1 rfl) ?_
          refine lv_iload_n hx hb dX5_setting_52 rfl (lv_at hl 3 rfl) ?_
          refine va_put (D := D) (ci := 5) (v := .int p2) (ty := .int) (C := RX5) (T := TX5) (N := 7) hx hb hts hiX50 tyX5 tyX5_ok nmX5 hown hK.1 hP hD hS 0 rfl rfl 5 (by decide) f0 (fun _ h9 => h9) rfl (by decide +kernel) rfl rfl (Nat.le_of_ble_eq_true rfl) dX5_setting_53 (fun H locs hP hD hS => ?_)
          have hP : va_P D vwCl (shW c (va_up u 3 p2) ++ svW c cA m lo a ++ noW c cA n a ++ lyX c cA cC sl X) H := hP
          have hD : va_D (va_A (shW c u ++ svW c cA m lo a ++ noW c cA n a ++ lyX c cA cC sl X) sz) (shW c (va_up u 3 p2) ++ svW c cA m lo a ++ noW c cA n a ++ lyX c cA cC sl X) := hD
          refine lv_iload_n hx hb dX5_setting_56 rfl (lv_at hl 0 rfl) ?_
          exact w_iret (S0 := cS) (w1 := cX c cA cC) (va_up u 3 p2, n, m, lo, a, sl, X) hx hb hr hlk hP hD hS (by rw [mutSet, if_pos ⟨c_6, c_16⟩, if_neg c_24] <;> rfl) dX5_setting_57
        · exact absurd c_40 c_24
      · refine lv_aload_n hx hb dX5_setting_27 rfl (lv_at hl 0 rfl) ?_
        refine va_get (D := D) (ci := 5) (v := .int (u 2)) (C := RX5) (T := TX5) (N := 7) hx hb hts hiX50 hown hK.1 hP 0 rfl rfl 4 (by decide) f1 (fun _ h9 => h9) rfl dX5_setting_28 ?_
        refine lv_goto (tgt := 38) hx hb dX5_setting_31 (by decide) ?_
        refine lv_istore_n (lv' := [(3, .int (u 2)), (0, .ref (c 0)), (1, .int p1), (2, .int p2)]) hx hb dX5_setting_38 rfl hl (by decide) rfl (fun ls hl => ?_)
        refine lv_iload_n hx hb dX5_setting_39 rfl (lv_at hl 2 rfl) ?_
        refine lv_if_ne (tgt := 51) hx hb dX5_setting_40 (by decide) (fun c_40 => ?_) (fun c_40 => ?_)
        · exact absurd c_24 c_40
        · refine lv_aload_n hx hb dX5_setting_43 rfl (lv_at hl 1 rfl) ?_
          refine lv_iload_n hx hb dX5_setting_44 rfl (lv_at hl 3 rfl) ?_
          refine va_put (D := D) (ci := 5) (v := .int p2) (ty := .int) (C := RX5) (T := TX5) (N := 7) hx hb hts hiX50 tyX5 tyX5_ok nmX5 hown hK.1 hP hD hS 0 rfl rfl 4 (by decide) f1 (fun _ h9 => h9) rfl (by decide +kernel) rfl rfl (Nat.le_of_ble_eq_true rfl) dX5_setting_45 (fun H locs hP hD hS => ?_)
          have hP : va_P D vwCl (shW c (va_up u 2 p2) ++ svW c cA m lo a ++ noW c cA n a ++ lyX c cA cC sl X) H := hP
          have hD : va_D (va_A (shW c u ++ svW c cA m lo a ++ noW c cA n a ++ lyX c cA cC sl X) sz) (shW c (va_up u 2 p2) ++ svW c cA m lo a ++ noW c cA n a ++ lyX c cA cC sl X) := hD
          refine lv_goto (tgt := 56) hx hb dX5_setting_48 (by decide) ?_
          refine lv_iload_n hx hb dX5_setting_56 rfl (lv_at hl 0 rfl) ?_
          exact w_iret (S0 := cS) (w1 := cX c cA cC) (va_up u 2 p2, n, m, lo, a, sl, X) hx hb hr hlk hP hD hS (by rw [mutSet, if_pos ⟨c_6, c_16⟩, if_pos c_24] <;> rfl) dX5_setting_57
    · refine lv_sipush (v := (-1002)) hx hb dX5_setting_19 (by decide) ?_
      exact w_iret (S0 := cS) (w1 := cX c cA cC) (u, n, m, lo, a, sl, X) hx hb hr hlk hP hD hS (by rw [mutSet, if_neg (fun h => c_16 h.2)] <;> rfl) dX5_setting_22

set_option maxHeartbeats 4000000 in
set_option maxRecDepth 100000 in
theorem k5_hides (l0 : Launch) (D : va_G) (c : Nat → Nat) (cA cC : ClassId) (u : Nat → Int32) (n m : Nat) (lo : Nat → Int32) (a : Nat → Nat → Int32) (sl : Prop) (X : lS) (sz : Nat) (on : Prop) : Met l0 yX5_hides wsX5_hides ({ frames := 0, cells := 0, slots := 0, locals := 0 }) (wPc D (shW c u ++ svW c cA m lo a ++ noW c cA n a ++ lyX c cA cC sl X) [(cA, .int), (cC, .object "StaffHeads$Chord")] sz [.ref (c 0), .int (bv on)]) (va_Qi (fun (r : Int32) (x : cS) => (r, x) = (if u 4 = 0 then 0 else 1, (va_up u 4 (bv on), n, m, lo, a, sl, X))) (wB D (shW c u ++ svW c cA m lo a ++ noW c cA n a ++ lyX c cA cC sl X) sz (cX c cA cC)) (va_A (shW c u ++ svW c cA m lo a ++ noW c cA n a ++ lyX c cA cC sl X) sz)) 0 0 (va_A (shW c u ++ svW c cA m lo a ++ noW c cA n a ++ lyX c cA cC sl X) sz) := by
  refine w_head (C := RX5) (cc := cX5_hides) (maxL := 3) (ret := (some .int)) [(0, .ref (c 0)), (1, .int (bv on))] (by decide) rfl rfl (Nat.le_of_ble_eq_true rfl) rfl ?_
  intro p e s mi below meth cd hx hb hr hlk hml hown hin hts hP hD hS hA hK ls hl
  have hiX50 : ∀ w ∈ wsX50, w ∈ wsX5_hides := fun w h => List.mem_cons_of_mem _ (List.mem_append_right _ h)
  have f0 := hts (.fieldLink RX5 37 "StaffHeads" "hiding" "Z") (List.mem_of_getElem? (i := 1) rfl)
  have hK1 : kK D [(cA, .int)] s := ⟨hK.1.sub [0] rfl, hK.2⟩
  refine x_joinW (D := D) (A := (va_A (shW c u ++ svW c cA m lo a ++ noW c cA n a ++ lyX c cA cC sl X) sz)) (H0 := s.heap) 3 [(0, .ref (c 0)), (1, .int (bv on))] (shW c u ++ svW c cA m lo a ++ noW c cA n a ++ lyX c cA cC sl X) 12 [.int (if u 4 = 0 then 0 else 1)] ?_ (fun j_12 => ?_)
  · intro ls H locs hl hP hD hS
    refine lv_istore_n (lv' := [(2, .int (if u 4 = 0 then 0 else 1)), (0, .ref (c 0)), (1, .int (bv on))]) hx hb dX5_hides_12 rfl hl (by decide) rfl (fun ls hl => ?_)
    refine lv_aload_n hx hb dX5_hides_13 rfl (lv_at hl 1 rfl) ?_
    refine lv_iload_n hx hb dX5_hides_14 rfl (lv_at hl 2 rfl) ?_
    refine va_put (D := D) (ci := 5) (v := .int (bv on)) (ty := .boolean) (C := RX5) (T := TX5) (N := 7) hx hb hts hiX50 tyX5 tyX5_ok nmX5 hown hK.1 hP hD hS 0 rfl rfl 6 (by decide) f0 (fun _ h9 => h9) rfl (by decide +kernel) bv_nar bv_fits (Nat.le_of_ble_eq_true rfl) dX5_hides_15 (fun H locs hP hD hS => ?_)
    have hP : va_P D vwCl (shW c (va_up u 4 (bv on)) ++ svW c cA m lo a ++ noW c cA n a ++ lyX c cA cC sl X) H := hP
    have hD : va_D (va_A (shW c u ++ svW c cA m lo a ++ noW c cA n a ++ lyX c cA cC sl X) sz) (shW c (va_up u 4 (bv on)) ++ svW c cA m lo a ++ noW c cA n a ++ lyX c cA cC sl X) := hD
    refine lv_iload_n hx hb dX5_hides_18 rfl (lv_at hl 0 rfl) ?_
    exact w_iret (S0 := cS) (w1 := cX c cA cC) (va_up u 4 (bv on), n, m, lo, a, sl, X) hx hb hr hlk hP hD hS rfl dX5_hides_19
  refine lv_aload_n hx hb dX5_hides_0 rfl (lv_at hl 0 rfl) ?_
  refine va_get (D := D) (ci := 5) (v := .int (u 4)) (C := RX5) (T := TX5) (N := 7) hx hb hts hiX50 hown hK.1 hP 0 rfl rfl 6 (by decide) f0 (fun _ h9 => h9) rfl dX5_hides_1 ?_
  refine lv_if_eq (tgt := 11) hx hb dX5_hides_4 (by decide) (fun c_4 => ?_) (fun c_4 => ?_)
  · refine lv_iconst (v := 0) hx hb dX5_hides_11 (by decide) ?_
    refine x_tp (y := if u 4 = 0 then 0 else 1) (by rw [if_pos c_4]) ?_
    exact j_12 _ _ _ (lv_sub hl [0, 1] rfl) hP hD hS
  · refine lv_iconst (v := 1) hx hb dX5_hides_7 (by decide) ?_
    refine lv_goto (tgt := 12) hx hb dX5_hides_8 (by decide) ?_
    refine x_tp (y := if u 4 = 0 then 0 else 1) (by rw [if_neg c_4]) ?_
    exact j_12 _ _ _ (lv_sub hl [0, 1] rfl) hP hD hS

set_option maxHeartbeats 4000000 in
set_option maxRecDepth 100000 in
theorem k5_about (l0 : Launch) (D : va_G) (c : Nat → Nat) (cA cC : ClassId) (u : Nat → Int32) (n m : Nat) (lo : Nat → Int32) (a : Nat → Nat → Int32) (sl : Prop) (X : lS) (sz : Nat) (p1 : Int32) (hW : WF n m a) (hLo : LoOK lo a) (hJ : JK X) (hLK : ¬ sl → LK a n m X) : Met l0 yX5_about wsX5_about ({ frames := 3, cells := 0, slots := 0, locals := 65 }) (wPc D (shW c u ++ svW c cA m lo a ++ noW c cA n a ++ lyX c cA cC sl X) [(cA, .int), (cC, .object "StaffHeads$Chord")] sz [.ref (c 0), .int p1]) (va_Qi (fun (r9 : Int32) (x : cS) => r9 = (if p1 = 0 then nI n else if p1 = 1 then nI m else if p1 = 2 then nI (rShown (a 7) (u 4) n 4) else -1002) ∧ (False → LK a n m (xL x)) ∧ cQ u n m lo a x) (wB D (shW c u ++ svW c cA m lo a ++ noW c cA n a ++ lyX c cA cC sl X) sz (cX c cA cC)) (va_A (shW c u ++ svW c cA m lo a ++ noW c cA n a ++ lyX c cA cC sl X) sz)) 0 0 (va_A (shW c u ++ svW c cA m lo a ++ noW c cA n a ++ lyX c cA cC sl X) sz) := by
  refine w_head (C := RX5) (cc := cX5_about) (maxL := 2) (ret := (some .int)) [(0, .ref (c 0)), (1, .int p1)] (by decide) rfl rfl (Nat.le_of_ble_eq_true rfl) rfl ?_
  intro p e s mi below meth cd hx hb hr hlk hml hown hin hts hP hD hS hA hK ls hl
  have hiX20 : ∀ w ∈ wsX20, w ∈ wsX5_about := fun w h => List.mem_cons_of_mem _ (List.mem_append_left _ (List.mem_append_right _ h))
  have hiX40 : ∀ w ∈ wsX40, w ∈ wsX5_about := fun w h => List.mem_cons_of_mem _ (List.mem_append_right _ h)
  have hiX50 : ∀ w ∈ wsX50, w ∈ wsX5_about := fun w h => List.mem_cons_of_mem _ (List.mem_append_left _ (List.mem_append_left _ (List.mem_append_right _ h)))
  have f0 := hts (.fieldLink RX5 19 "StaffHeads" "notes" "LStaffHeads$Notes;") (List.mem_of_getElem? (i := 1) rfl)
  have f1 := hts (.fieldLink RX5 78 "StaffHeads$Notes" "count" "I") (List.mem_of_getElem? (i := 2) rfl)
  have f2 := hts (.fieldLink RX5 10 "StaffHeads" "staves" "LStaffHeads$Staves;") (List.mem_of_getElem? (i := 3) rfl)
  have f3 := hts (.fieldLink RX5 67 "StaffHeads$Staves" "shifts" "I") (List.mem_of_getElem? (i := 4) rfl)
  have hK1 : kK D [(cA, .int)] s := ⟨hK.1.sub [0] rfl, hK.2⟩
  have hn : n ≤ 60 := hW.1
  have hm : m ≤ 12 := hW.2.1
  refine lv_iload_n hx hb dX5_about_0 rfl (lv_at hl 1 rfl) ?_
  by_cases hw_0 : p1 = 0
  · refine x_tp (y := 0) hw_0 ?_
    refine lv_tableIn (tgt := 28) hx hb dX5_about_1 (by decide) (by decide) rfl (by decide) ?_
    refine lv_aload_n hx hb dX5_about_28 rfl (lv_at hl 0 rfl) ?_
    refine va_get (D := D) (ci := 5) (v := .ref (c 7)) (C := RX5) (T := TX5) (N := 7) hx hb hts hiX50 hown hK.1 hP 0 rfl rfl 2 (by decide) f0 (fun _ h9 => h9) rfl dX5_about_29 ?_
    refine va_get (D := D) (ci := 2) (v := .int (nI n)) (C := RX2) (T := TX2) (N := 7) hx hb hts hiX20 hown hK.1 hP 7 rfl rfl 6 (by decide) f1 (fun _ h9 => h9) rfl dX5_about_32 ?_
    exact w_iret (S0 := cS) (w1 := cX c cA cC) (u, n, m, lo, a, sl, X) hx hb hr hlk hP hD hS ⟨(by rw [if_pos hw_0]), (fun h9 => absurd h9 (fun h => h)), _, _, rfl, hJ, hLK⟩ dX5_about_35
  by_cases hw_1 : p1 = 1
  · refine x_tp (y := 1) hw_1 ?_
    refine lv_tableIn (tgt := 36) hx hb dX5_about_1 (by decide) (by decide) rfl (by decide) ?_
    refine lv_aload_n hx hb dX5_about_36 rfl (lv_at hl 0 rfl) ?_
    refine va_get (D := D) (ci := 5) (v := .ref (c 1)) (C := RX5) (T := TX5) (N := 7) hx hb hts hiX50 hown hK.1 hP 0 rfl rfl 1 (by decide) f2 (fun _ h9 => h9) rfl dX5_about_37 ?_
    refine va_get (D := D) (ci := 4) (v := .int (nI m)) (C := RX4) (T := TX4) (N := 6) hx hb hts hiX40 hown hK.1 hP 1 rfl rfl 5 (by decide) f3 (fun _ h9 => h9) rfl dX5_about_40 ?_
    exact w_iret (S0 := cS) (w1 := cX c cA cC) (u, n, m, lo, a, sl, X) hx hb hr hlk hP hD hS ⟨(by rw [if_neg hw_0, if_pos hw_1]), (fun h9 => absurd h9 (fun h => h)), _, _, rfl, hJ, hLK⟩ dX5_about_43
  by_cases hw_2 : p1 = 2
  · refine x_tp (y := 2) hw_2 ?_
    refine lv_tableIn (tgt := 44) hx hb dX5_about_1 (by decide) (by decide) rfl (by decide) ?_
    refine lv_aload_n hx hb dX5_about_44 rfl (lv_at hl 0 rfl) ?_
    refine rcVi (As := []) (rest := []) ⟨hx, hb, hml, hown, hts⟩ (k5_shownStaves l0 D c cA cC u n a (by omega)) (cwV 0 hts gX5_about_X5_shownStaves rfl rfl rfl (by decide +kernel) ⟨Nat.le_of_ble_eq_true rfl, Nat.le_of_ble_eq_true rfl⟩) (va_recv hK.1 hP (ci := 5) (q0 := 0) rfl rfl) (hP.sub [0, 7, 8, 9, 10, 11, 12, 13] rfl) hK rfl hl.1 rfl (Nat.le_of_ble_eq_true rfl) dX5_about_45 ⟨Nat.zero_le _, Nat.zero_le _⟩ ?_
    exact w_iret (S0 := cS) (w1 := cX c cA cC) (u, n, m, lo, a, sl, X) hx hb hr hlk hP hD hS ⟨(by rw [if_neg hw_0, if_neg hw_1, if_pos hw_2]), (fun h9 => absurd h9 (fun h => h)), _, _, rfl, hJ, hLK⟩ dX5_about_48
  refine lv_tableOut (tgt := 49) hx hb dX5_about_1 (sw_out (N := 2) (fun j hj => match j, hj with | 0, _ => hw_0 | 1, _ => hw_1 | 2, _ => hw_2 | k9 + 3, h9 => absurd h9 (by omega)) (by decide)) (by decide) ?_
  refine lv_sipush (v := (-1002)) hx hb dX5_about_49 (by decide) ?_
  exact w_iret (S0 := cS) (w1 := cX c cA cC) (u, n, m, lo, a, sl, X) hx hb hr hlk hP hD hS ⟨(by rw [if_neg hw_0, if_neg hw_1, if_neg hw_2]), (fun h9 => absurd h9 (fun h => h)), _, _, rfl, hJ, hLK⟩ dX5_about_52
