set_option maxHeartbeats 4000000 in
set_option maxRecDepth 100000 in
theorem k4_putClef (l : Launch) (D : va_G) (c : Nat → Nat) (cA : ClassId) (m : Nat) (lo : Nat → Int32) (a : Nat → Nat → Int32) (sz zt : Nat) (j kd : Nat) (ln : Int32) (hj : j < 4) (hk : kd < 3) : Met l yX4_putClef wsX4_putClef ({ frames := 0, cells := 0, slots := 0, locals := 0 }) (zPc D (svW c cA m lo a) [(cA, .int)] sz zt [.ref (c 1), .int (nI j), .int (nI kd), .int ln]) (va_Qv (fun _ : Unit => True) (wB D (svW c cA m lo a) sz (fun _ => svW c cA m (upd lo j (rClef (nI kd) - 2 * (ln - 1))) a)) (va_A (svW c cA m lo a) sz)) 0 0 (va_A (svW c cA m lo a) sz) := by
  refine z_head (C := RX4) (cc := cX4_putClef) (maxL := 4) (ret := none) [(0, .ref (c 1)), (1, .int (nI j)), (2, .int (nI kd)), (3, .int ln)] (by decide) rfl rfl (Nat.le_of_ble_eq_true rfl) rfl ?_
  intro p e s mi below meth cd hx hb hr hlk hml hown hin hts hP hD hS hA hK hZ ls hl
  have hiX40 : ∀ w ∈ wsX40, w ∈ wsX4_putClef := fun w h => List.mem_cons_of_mem _ (List.mem_append_right _ h)
  have f0 := hts (.fieldLink RX4 9 "StaffHeads$Staves" "lowestLine" "[I") (List.mem_of_getElem? (i := 1) rfl)
  refine lv_aload_n hx hb dX4_putClef_0 rfl (lv_at hl 0 rfl) ?_
  refine va_get (D := D) (ci := 4) (v := .ref (c 2)) (C := RX4) (T := TX4) (N := 6) hx hb hts hiX40 hown hK.1 hP 0 rfl rfl 0 (by decide) f0 (fun _ h9 => h9) rfl dX4_putClef_1 ?_
  refine lv_iload_n hx hb dX4_putClef_4 rfl (lv_at hl 1 rfl) ?_
  refine va_getsN hx hb hZ.1 hS hown (va_Nw.use rfl hK.2.2.2.2.2.2.2.2) (fun _ h9 => h9) dX4_putClef_5 ?_
  refine lv_iload_n hx hb dX4_putClef_8 rfl (lv_at hl 2 rfl) ?_
  refine va_ti (v := .int (rClef (nI kd))) hx hb hZ.2.1 hS (vp_in_nI hk (by decide)) (by rw [nI_clamp (by omega)]; exact zF_clef hk) dX4_putClef_9 ?_
  refine lv_iconst (v := 2) hx hb dX4_putClef_10 (by decide) ?_
  refine lv_iload_n hx hb dX4_putClef_11 rfl (lv_at hl 3 rfl) ?_
  refine lv_iconst (v := 1) hx hb dX4_putClef_12 (by decide) ?_
  refine lv_isub hx hb dX4_putClef_13 ?_
  refine lv_imul hx hb dX4_putClef_14 ?_
  refine lv_isub hx hb dX4_putClef_15 ?_
  refine x_iast hx hb hK hP hD hS 1 0 rfl rfl (k := j) (by omega) (by decide) dX4_putClef_16 (fun H locs hP hD hS => ?_)
  have hP : va_P D vwCl (svW c cA m (upd lo j ((rClef (nI kd)) - (2 * (ln - 1)))) a) H := hP
  have hD : va_D (va_A (svW c cA m lo a) sz) (svW c cA m (upd lo j ((rClef (nI kd)) - (2 * (ln - 1)))) a) := hD
  exact w_vret () hx hb hr hlk hP hD hS (trivial) dX4_putClef_17

set_option maxHeartbeats 4000000 in
set_option maxRecDepth 100000 in
theorem k5_clef (l0 : Launch) (D : va_G) (c : Nat → Nat) (cA cC : ClassId) (u : Nat → Int32) (n m : Nat) (lo : Nat → Int32) (a : Nat → Nat → Int32) (sl : Prop) (X : lS) (sz zt : Nat) (p1 p2 p3 : Int32) : Met l0 yX5_clef wsX5_clef ({ frames := 2, cells := 0, slots := 0, locals := 42 }) (zPc D (shW c u ++ svW c cA m lo a ++ noW c cA n a ++ lyX c cA cC sl X) [(cA, .int), (cC, .object "StaffHeads$Chord")] sz zt [.ref (c 0), .int p1, .int p2, .int p3]) (va_Qi (fun (r : Int32) (x : cS) => (r, x) = mutClef p1 p2 p3 (u, n, m, lo, a, sl, X) (u, n, m, upd lo p1.toNatClampNeg (rClef p2 - 2 * (p3 - 1)), a, True, X)) (wB D (shW c u ++ svW c cA m lo a ++ noW c cA n a ++ lyX c cA cC sl X) sz (cX c cA cC)) (va_A (shW c u ++ svW c cA m lo a ++ noW c cA n a ++ lyX c cA cC sl X) sz)) 0 0 (va_A (shW c u ++ svW c cA m lo a ++ noW c cA n a ++ lyX c cA cC sl X) sz) := by
  refine z_head (C := RX5) (cc := cX5_clef) (maxL := 4) (ret := (some .int)) [(0, .ref (c 0)), (1, .int p1), (2, .int p2), (3, .int p3)] (by decide) rfl rfl (Nat.le_of_ble_eq_true rfl) rfl ?_
  intro p e s mi below meth cd hx hb hr hlk hml hown hin hts hP hD hS hA hK hZ ls hl
  have hiX10 : ∀ w ∈ wsX10, w ∈ wsX5_clef := fun w h => List.mem_cons_of_mem _ (List.mem_append_left _ (List.mem_append_right _ h))
  have hiX50 : ∀ w ∈ wsX50, w ∈ wsX5_clef := fun w h => List.mem_cons_of_mem _ (List.mem_append_left _ (List.mem_append_left _ (List.mem_append_right _ h)))
  have f0 := hts (.fieldLink RX5 53 "StaffHeads" "CLEF_NUMBERS" "[I") (List.mem_of_getElem? (i := 1) rfl)
  have f1 := hts (.fieldLink RX5 10 "StaffHeads" "staves" "LStaffHeads$Staves;") (List.mem_of_getElem? (i := 2) rfl)
  have f2 := hts (.fieldLink RX5 26 "StaffHeads" "layout" "LStaffHeads$Layout;") (List.mem_of_getElem? (i := 3) rfl)
  have f3 := hts (.fieldLink RX5 61 "StaffHeads$Layout" "stale" "Z") (List.mem_of_getElem? (i := 4) rfl)
  have hK1 : kK D [(cA, .int)] s := ⟨hK.1.sub [0] rfl, hK.2⟩
  refine lv_iload_n hx hb dX5_clef_0 rfl (lv_at hl 1 rfl) ?_
  refine rcSi (As := [.int p1]) (rest := []) ⟨hx, hb, hml, hown, hts⟩ (k5_isStaff l0 p1) (va_cwS 1 hts gX5_clef_X5_isStaff rfl rfl rfl (by decide +kernel) ⟨Nat.le_of_ble_eq_true rfl, Nat.le_of_ble_eq_true rfl⟩) rfl hl.1 rfl (Nat.le_of_ble_eq_true rfl) dX5_clef_1 ⟨Nat.zero_le _, Nat.zero_le _⟩ ?_
  refine x_ifne (tgt := 11) hx hb dX5_clef_4 (by decide) (fun (c_4 : okI p1 0 3) => ?_) (fun (c_4 : ¬ (okI p1 0 3)) => ?_)
  · have hj := okI_nat (N := 3) (by decide) c_4
    refine lv_iload_n hx hb dX5_clef_11 rfl (lv_at hl 2 rfl) ?_
    refine lv_iconst (v := 0) hx hb dX5_clef_12 (by decide) ?_
    refine va_gets hx hb hZ.1 hS hown f0 (fun _ h9 => h9) dX5_clef_13 ?_
    refine va_tlen (v := 3) hx hb hZ.2.1 hS rfl dX5_clef_16 ?_
    refine lv_iconst (v := 1) hx hb dX5_clef_17 (by decide) ?_
    refine lv_isub hx hb dX5_clef_18 ?_
    refine x_tp (y := 2) (by decide) ?_
    refine rcSi (As := [.int p2, .int 0, .int 2]) (rest := []) ⟨hx, hb, hml, hown, hts⟩ (k5_within l0 p2 0 2) (va_cwS 3 hts gX5_clef_X5_within rfl rfl rfl (by decide +kernel) ⟨Nat.le_of_ble_eq_true rfl, Nat.le_of_ble_eq_true rfl⟩) rfl hl.1 rfl (Nat.le_of_ble_eq_true rfl) dX5_clef_19 ⟨Nat.zero_le _, Nat.zero_le _⟩ ?_
    refine x_ifeq (tgt := 34) hx hb dX5_clef_22 (by decide) (fun (c_22 : ¬ (okI p2 0 2)) => ?_) (fun (c_22 : okI p2 0 2) => ?_)
    · refine lv_sipush (v := (-1002)) hx hb dX5_clef_34 (by decide) ?_
      exact w_iret (S0 := cS) (w1 := cX c cA cC) (u, n, m, lo, a, sl, X) hx hb hr hlk hP hD hS (by rw [mutClef, if_pos c_4, if_neg (fun h => c_22 h.1)] <;> rfl) dX5_clef_37
    · have hk := okI_nat (N := 2) (by decide) c_22
      refine lv_iload_n hx hb dX5_clef_25 rfl (lv_at hl 3 rfl) ?_
      refine lv_iconst (v := 1) hx hb dX5_clef_26 (by decide) ?_
      refine lv_iconst (v := 5) hx hb dX5_clef_27 (by decide) ?_
      refine rcSi (As := [.int p3, .int 1, .int 5]) (rest := []) ⟨hx, hb, hml, hown, hts⟩ (k5_within l0 p3 1 5) (va_cwS 3 hts gX5_clef_X5_within rfl rfl rfl (by decide +kernel) ⟨Nat.le_of_ble_eq_true rfl, Nat.le_of_ble_eq_true rfl⟩) rfl hl.1 rfl (Nat.le_of_ble_eq_true rfl) dX5_clef_28 ⟨Nat.zero_le _, Nat.zero_le _⟩ ?_
      refine x_ifne (tgt := 38) hx hb dX5_clef_31 (by decide) (fun (c_31 : okI p3 1 5) => ?_) (fun (c_31 : ¬ (okI p3 1 5)) => ?_)
      · refine lv_aload_n hx hb dX5_clef_38 rfl (lv_at hl 0 rfl) ?_
        refine va_get (D := D) (ci := 5) (v := .ref (c 1)) (C := RX5) (T := TX5) (N := 7) hx hb hts hiX50 hown hK.1 hP 0 rfl rfl 1 (by decide) f1 (fun _ h9 => h9) rfl dX5_clef_39 ?_
        refine lv_iload_n hx hb dX5_clef_42 rfl (lv_at hl 1 rfl) ?_
        refine x_tp (y := nI p1.toNatClampNeg) hj.1 ?_
        refine lv_iload_n hx hb dX5_clef_43 rfl (lv_at hl 2 rfl) ?_
        refine x_tp (y := nI p2.toNatClampNeg) hk.1 ?_
        refine lv_iload_n hx hb dX5_clef_44 rfl (lv_at hl 3 rfl) ?_
        refine wgv (S0 := Unit) (wr := shW c u ++ noW c cA n a ++ lyX c cA cC sl X) (va_runV (As := [.int (nI p1.toNatClampNeg), .int (nI p2.toNatClampNeg), .int p3]) (rest := []) ⟨hx, hb, hml, hown, hts⟩ (k4_putClef l0 D c cA m lo a _ zt p1.toNatClampNeg p2.toNatClampNeg p3 (by omega) (by omega)) (cwV 3 hts gX5_clef_X4_putClef rfl rfl rfl (by decide +kernel) ⟨Nat.le_of_ble_eq_true rfl, Nat.le_of_ble_eq_true rfl⟩) (preZV (va_recv hK.1 hP (ci := 4) (q0 := 1) rfl rfl) hP hD hS hA hK1 hZ [1, 2, 3, 4, 5, 6] rfl (by decide)) rfl rfl hl.1 rfl (lv_room (Nat.le_of_ble_eq_true rfl)) dX5_clef_45 ⟨Nat.le_of_ble_eq_true rfl, Nat.le_of_ble_eq_true rfl⟩) hP hD hS hA [1, 2, 3, 4, 5, 6] [0, 7, 8, 9, 10, 11, 12, 13, 14, 15, 16, 17, 18, 19, 20, 21, 22, 23, 24, 25, 26, 27, 28, 29, 30, 31, 32, 33, 34, 35, 36] rfl rfl (by decide) (by decide) (fun _ H locs _ hP hD hS => ?_)
        have hP : va_P D vwCl (shW c u ++ svW c cA m (upd lo p1.toNatClampNeg (rClef (nI p2.toNatClampNeg) - 2 * (p3 - 1))) a ++ noW c cA n a ++ lyX c cA cC sl X) H := hP.sub [0, 31, 32, 33, 34, 35, 36, 1, 2, 3, 4, 5, 6, 7, 8, 9, 10, 11, 12, 13, 14, 15, 16, 17, 18, 19, 20, 21, 22, 23, 24, 25, 26, 27, 28, 29, 30] rfl
        have hD : va_D (va_A (shW c u ++ svW c cA m lo a ++ noW c cA n a ++ lyX c cA cC sl X) sz) (shW c u ++ svW c cA m (upd lo p1.toNatClampNeg (rClef (nI p2.toNatClampNeg) - 2 * (p3 - 1))) a ++ noW c cA n a ++ lyX c cA cC sl X) := hD.sub [0, 31, 32, 33, 34, 35, 36, 1, 2, 3, 4, 5, 6, 7, 8, 9, 10, 11, 12, 13, 14, 15, 16, 17, 18, 19, 20, 21, 22, 23, 24, 25, 26, 27, 28, 29, 30] (by decide) rfl
        have hwe : shW c u ++ svW c cA m (upd lo p1.toNatClampNeg (rClef (nI p2.toNatClampNeg) - 2 * (p3 - 1))) a ++ noW c cA n a ++ lyX c cA cC sl X = shW c u ++ svW c cA m (upd lo p1.toNatClampNeg (rClef p2 - 2 * (p3 - 1))) a ++ noW c cA n a ++ lyX c cA cC sl X := (by rw [← hk.1])
        rw [hwe] at hP hD
        refine lv_aload_n hx hb dX5_clef_48 rfl (lv_at hl 0 rfl) ?_
        refine va_get (D := D) (ci := 5) (v := .ref (c 14)) (C := RX5) (T := TX5) (N := 7) hx hb hts hiX50 hown hK.1 hP 0 rfl rfl 3 (by decide) f2 (fun _ h9 => h9) rfl dX5_clef_49 ?_
        refine lv_iconst (v := 1) hx hb dX5_clef_52 (by decide) ?_
        refine x_tp (y := bv True) (bv_t trivial).symm ?_
        refine va_put (D := D) (ci := 1) (v := .int (bv True)) (ty := .boolean) (C := RX1) (T := TX1) (N := 15) hx hb hts hiX10 tyX1 tyX1_ok nmX1 hown hK.1 hP hD hS 14 rfl rfl 0 (by decide) f3 (fun _ h9 => h9) rfl (by decide +kernel) bv_nar bv_fits (Nat.le_of_ble_eq_true rfl) dX5_clef_53 (fun H locs hP hD hS => ?_)
        have hP : va_P D vwCl (shW c u ++ svW c cA m (upd lo p1.toNatClampNeg (rClef p2 - 2 * (p3 - 1))) a ++ noW c cA n a ++ lyX c cA cC True X) H := hP
        have hD : va_D (va_A (shW c u ++ svW c cA m lo a ++ noW c cA n a ++ lyX c cA cC sl X) sz) (shW c u ++ svW c cA m (upd lo p1.toNatClampNeg (rClef p2 - 2 * (p3 - 1))) a ++ noW c cA n a ++ lyX c cA cC True X) := hD
        refine lv_iconst (v := 1) hx hb dX5_clef_56 (by decide) ?_
        exact w_iret (S0 := cS) (w1 := cX c cA cC) (u, n, m, upd lo p1.toNatClampNeg (rClef p2 - 2 * (p3 - 1)), a, True, X) hx hb hr hlk hP hD hS (by rw [mutClef, if_pos c_4, if_pos ⟨c_22, c_31⟩] <;> rfl) dX5_clef_57
      · refine lv_sipush (v := (-1002)) hx hb dX5_clef_34 (by decide) ?_
        exact w_iret (S0 := cS) (w1 := cX c cA cC) (u, n, m, lo, a, sl, X) hx hb hr hlk hP hD hS (by rw [mutClef, if_pos c_4, if_neg (fun h => c_31 h.2)] <;> rfl) dX5_clef_37
  · refine lv_sipush (v := (-1001)) hx hb dX5_clef_7 (by decide) ?_
    exact w_iret (S0 := cS) (w1 := cX c cA cC) (u, n, m, lo, a, sl, X) hx hb hr hlk hP hD hS (by rw [mutClef, if_neg c_4] <;> rfl) dX5_clef_10
