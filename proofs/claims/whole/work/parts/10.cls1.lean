set_option maxHeartbeats 4000000 in
set_option maxRecDepth 100000 in
theorem k5_within (l : Launch) (v f t : Int32) : Met l yX5_within wsX5_within ({ frames := 0, cells := 0, slots := 0, locals := 0 }) (fun w9 _ => w9 = ([.int v, .int f, .int t] : List Value).toArray) (vp_Si (fun r => r = bv (okI v f t))) 0 0 (fun _ => False) := by
  refine s_head (C := RX5) (cc := cX5_within) (maxL := 3) (ret := (some .boolean)) [(0, .int v), (1, .int f), (2, .int t)] (by decide) rfl rfl (Nat.le_of_ble_eq_true rfl) rfl ?_
  intro p e s mi below meth cd hx hb hr hlk hml hown hts ls hl
  refine lv_iload_n hx hb dX5_within_0 rfl (lv_at hl 0 rfl) ?_
  refine lv_iload_n hx hb dX5_within_1 rfl (lv_at hl 1 rfl) ?_
  refine lv_icmp_lt (tgt := 14) hx hb dX5_within_2 (by decide) (fun c_2 => ?_) (fun c_2 => ?_)
  · refine lv_iconst (v := 0) hx hb dX5_within_14 (by decide) ?_
    exact r_zret hx hb hr hlk rfl ((bv_f (by simp [rAt, rIn, rSh, c_2, okI])).symm) dX5_within_15
  · refine lv_iload_n hx hb dX5_within_5 rfl (lv_at hl 0 rfl) ?_
    refine lv_iload_n hx hb dX5_within_6 rfl (lv_at hl 2 rfl) ?_
    refine lv_icmp_gt (tgt := 14) hx hb dX5_within_7 (by decide) (fun c_7 => ?_) (fun c_7 => ?_)
    · refine lv_iconst (v := 0) hx hb dX5_within_14 (by decide) ?_
      exact r_zret hx hb hr hlk rfl ((bv_f (by simp [rAt, rIn, rSh, c_2, c_7, okI])).symm) dX5_within_15
    · refine lv_iconst (v := 1) hx hb dX5_within_10 (by decide) ?_
      refine lv_goto (tgt := 15) hx hb dX5_within_11 (by decide) ?_
      exact r_zret hx hb hr hlk rfl ((bv_t (by simp [rAt, rIn, rSh, c_2, c_7, okI])).symm) dX5_within_15

set_option maxHeartbeats 4000000 in
set_option maxRecDepth 100000 in
theorem k5_isStaff (l : Launch) (v : Int32) : Met l yX5_isStaff wsX5_isStaff ({ frames := 1, cells := 0, slots := 0, locals := 22 }) (fun w9 _ => w9 = ([.int v] : List Value).toArray) (vp_Si (fun r => r = bv (okI v 0 3))) 0 0 (fun _ => False) := by
  refine s_head (C := RX5) (cc := cX5_isStaff) (maxL := 1) (ret := (some .boolean)) [(0, .int v)] (by decide) rfl rfl (Nat.le_of_ble_eq_true rfl) rfl ?_
  intro p e s mi below meth cd hx hb hr hlk hml hown hts ls hl
  refine lv_iload_n hx hb dX5_isStaff_0 rfl (lv_at hl 0 rfl) ?_
  refine lv_iconst (v := 0) hx hb dX5_isStaff_1 (by decide) ?_
  refine lv_iconst (v := 3) hx hb dX5_isStaff_2 (by decide) ?_
  refine rcSi (As := [.int v, .int 0, .int 3]) (rest := []) ⟨hx, hb, hml, hown, hts⟩ (k5_within l v 0 3) (va_cwS 3 hts gX5_isStaff_X5_within rfl rfl rfl (by decide +kernel) ⟨Nat.le_of_ble_eq_true rfl, Nat.le_of_ble_eq_true rfl⟩) rfl hl.1 rfl (Nat.le_of_ble_eq_true rfl) dX5_isStaff_3 ⟨Nat.zero_le _, Nat.zero_le _⟩ ?_
  exact r_zret hx hb hr hlk bv_nar (rfl) dX5_isStaff_6

set_option maxHeartbeats 4000000 in
set_option maxRecDepth 100000 in
theorem k5_isTick (l : Launch) (v : Int32) : Met l yX5_isTick wsX5_isTick ({ frames := 1, cells := 0, slots := 0, locals := 22 }) (fun w9 _ => w9 = ([.int v] : List Value).toArray) (vp_Si (fun r => r = bv (okI v 0 99))) 0 0 (fun _ => False) := by
  refine s_head (C := RX5) (cc := cX5_isTick) (maxL := 1) (ret := (some .boolean)) [(0, .int v)] (by decide) rfl rfl (Nat.le_of_ble_eq_true rfl) rfl ?_
  intro p e s mi below meth cd hx hb hr hlk hml hown hts ls hl
  refine lv_iload_n hx hb dX5_isTick_0 rfl (lv_at hl 0 rfl) ?_
  refine lv_iconst (v := 0) hx hb dX5_isTick_1 (by decide) ?_
  refine lv_bipush (v := 99) hx hb dX5_isTick_2 (by decide) ?_
  refine rcSi (As := [.int v, .int 0, .int 99]) (rest := []) ⟨hx, hb, hml, hown, hts⟩ (k5_within l v 0 99) (va_cwS 3 hts gX5_isTick_X5_within rfl rfl rfl (by decide +kernel) ⟨Nat.le_of_ble_eq_true rfl, Nat.le_of_ble_eq_true rfl⟩) rfl hl.1 rfl (Nat.le_of_ble_eq_true rfl) dX5_isTick_4 ⟨Nat.zero_le _, Nat.zero_le _⟩ ?_
  exact r_zret hx hb hr hlk bv_nar (rfl) dX5_isTick_7

set_option maxHeartbeats 4000000 in
set_option maxRecDepth 100000 in
theorem k5_isPitch (l : Launch) (v t : Int32) : Met l yX5_isPitch wsX5_isPitch ({ frames := 1, cells := 0, slots := 0, locals := 22 }) (fun w9 _ => w9 = ([.int v, .int t] : List Value).toArray) (vp_Si (fun r => r = bv (okI v 0 6 ∧ okI t 0 9))) 0 0 (fun _ => False) := by
  refine s_head (C := RX5) (cc := cX5_isPitch) (maxL := 2) (ret := (some .boolean)) [(0, .int v), (1, .int t)] (by decide) rfl rfl (Nat.le_of_ble_eq_true rfl) rfl ?_
  intro p e s mi below meth cd hx hb hr hlk hml hown hts ls hl
  refine lv_iload_n hx hb dX5_isPitch_0 rfl (lv_at hl 0 rfl) ?_
  refine lv_iconst (v := 0) hx hb dX5_isPitch_1 (by decide) ?_
  refine lv_bipush (v := 6) hx hb dX5_isPitch_2 (by decide) ?_
  refine rcSi (As := [.int v, .int 0, .int 6]) (rest := []) ⟨hx, hb, hml, hown, hts⟩ (k5_within l v 0 6) (va_cwS 3 hts gX5_isPitch_X5_within rfl rfl rfl (by decide +kernel) ⟨Nat.le_of_ble_eq_true rfl, Nat.le_of_ble_eq_true rfl⟩) rfl hl.1 rfl (Nat.le_of_ble_eq_true rfl) dX5_isPitch_4 ⟨Nat.zero_le _, Nat.zero_le _⟩ ?_
  refine x_ifeq (tgt := 24) hx hb dX5_isPitch_7 (by decide) (fun (c_7 : ¬ (okI v 0 6)) => ?_) (fun (c_7 : okI v 0 6) => ?_)
  · refine lv_iconst (v := 0) hx hb dX5_isPitch_24 (by decide) ?_
    exact r_zret hx hb hr hlk rfl ((bv_f (fun h => c_7 h.1)).symm) dX5_isPitch_25
  · refine lv_iload_n hx hb dX5_isPitch_10 rfl (lv_at hl 1 rfl) ?_
    refine lv_iconst (v := 0) hx hb dX5_isPitch_11 (by decide) ?_
    refine lv_bipush (v := 9) hx hb dX5_isPitch_12 (by decide) ?_
    refine rcSi (As := [.int t, .int 0, .int 9]) (rest := []) ⟨hx, hb, hml, hown, hts⟩ (k5_within l t 0 9) (va_cwS 3 hts gX5_isPitch_X5_within rfl rfl rfl (by decide +kernel) ⟨Nat.le_of_ble_eq_true rfl, Nat.le_of_ble_eq_true rfl⟩) rfl hl.1 rfl (Nat.le_of_ble_eq_true rfl) dX5_isPitch_14 ⟨Nat.zero_le _, Nat.zero_le _⟩ ?_
    refine x_ifeq (tgt := 24) hx hb dX5_isPitch_17 (by decide) (fun (c_17 : ¬ (okI t 0 9)) => ?_) (fun (c_17 : okI t 0 9) => ?_)
    · refine lv_iconst (v := 0) hx hb dX5_isPitch_24 (by decide) ?_
      exact r_zret hx hb hr hlk rfl ((bv_f (fun h => c_17 h.2)).symm) dX5_isPitch_25
    · refine lv_iconst (v := 1) hx hb dX5_isPitch_20 (by decide) ?_
      refine lv_goto (tgt := 25) hx hb dX5_isPitch_21 (by decide) ?_
      exact r_zret hx hb hr hlk rfl ((bv_t ⟨c_7, c_17⟩).symm) dX5_isPitch_25

set_option maxHeartbeats 4000000 in
set_option maxRecDepth 100000 in
theorem k5_cellOf (l : Launch) (v t : Int32) : Met l yX5_cellOf wsX5_cellOf ({ frames := 0, cells := 0, slots := 0, locals := 0 }) (fun w9 _ => w9 = ([.int v, .int t] : List Value).toArray) (vp_Si (fun r => r = v * 100 + t)) 0 0 (fun _ => False) := by
  refine s_head (C := RX5) (cc := cX5_cellOf) (maxL := 2) (ret := (some .int)) [(0, .int v), (1, .int t)] (by decide) rfl rfl (Nat.le_of_ble_eq_true rfl) rfl ?_
  intro p e s mi below meth cd hx hb hr hlk hml hown hts ls hl
  refine lv_iload_n hx hb dX5_cellOf_0 rfl (lv_at hl 0 rfl) ?_
  refine lv_bipush (v := 100) hx hb dX5_cellOf_1 (by decide) ?_
  refine lv_imul hx hb dX5_cellOf_3 ?_
  refine lv_iload_n hx hb dX5_cellOf_4 rfl (lv_at hl 1 rfl) ?_
  refine lv_iadd hx hb dX5_cellOf_5 ?_
  exact r_iret hx hb hr hlk (rfl) dX5_cellOf_6

set_option maxHeartbeats 4000000 in
set_option maxRecDepth 100000 in
theorem k4_addShift (l : Launch) (D : va_G) (c : Nat → Nat) (cA : ClassId) (m : Nat) (lo : Nat → Int32) (a : Nat → Nat → Int32) (sz : Nat) (p1 p2 p3 p4 : Int32) (hm : m < 12) : Met l yX4_addShift wsX4_addShift ({ frames := 0, cells := 0, slots := 0, locals := 0 }) (wPc D (svW c cA m lo a) [(cA, .int)] sz [.ref (c 1), .int p1, .int p2, .int p3, .int p4]) (va_Qv (fun _ : Unit => True) (wB D (svW c cA m lo a) sz (fun _ => svW c cA (m + 1) lo (rShiftA a m p1 p2 p3 p4))) (va_A (svW c cA m lo a) sz)) 0 0 (va_A (svW c cA m lo a) sz) := by
  refine w_head (C := RX4) (cc := cX4_addShift) (maxL := 5) (ret := none) [(0, .ref (c 1)), (1, .int p1), (2, .int p2), (3, .int p3), (4, .int p4)] (by decide) rfl rfl (Nat.le_of_ble_eq_true rfl) rfl ?_
  intro p e s mi below meth cd hx hb hr hlk hml hown hin hts hP hD hS hA hK ls hl
  have hiX40 : ∀ w ∈ wsX40, w ∈ wsX4_addShift := fun w h => List.mem_cons_of_mem _ (List.mem_append_right _ h)
  have f0 := hts (.fieldLink RX4 15 "StaffHeads$Staves" "shiftStaff" "[I") (List.mem_of_getElem? (i := 1) rfl)
  have f1 := hts (.fieldLink RX4 27 "StaffHeads$Staves" "shifts" "I") (List.mem_of_getElem? (i := 2) rfl)
  have f2 := hts (.fieldLink RX4 18 "StaffHeads$Staves" "shiftFrom" "[I") (List.mem_of_getElem? (i := 3) rfl)
  have f3 := hts (.fieldLink RX4 21 "StaffHeads$Staves" "shiftTo" "[I") (List.mem_of_getElem? (i := 4) rfl)
  have f4 := hts (.fieldLink RX4 24 "StaffHeads$Staves" "shiftOctaves" "[I") (List.mem_of_getElem? (i := 5) rfl)
  refine lv_aload_n hx hb dX4_addShift_0 rfl (lv_at hl 0 rfl) ?_
  refine va_get (D := D) (ci := 4) (v := .ref (c 3)) (C := RX4) (T := TX4) (N := 6) hx hb hts hiX40 hown hK.1 hP 0 rfl rfl 1 (by decide) f0 (fun _ h9 => h9) rfl dX4_addShift_1 ?_
  refine lv_aload_n hx hb dX4_addShift_4 rfl (lv_at hl 0 rfl) ?_
  refine va_get (D := D) (ci := 4) (v := .int (nI m)) (C := RX4) (T := TX4) (N := 6) hx hb hts hiX40 hown hK.1 hP 0 rfl rfl 5 (by decide) f1 (fun _ h9 => h9) rfl dX4_addShift_5 ?_
  refine lv_iload_n hx hb dX4_addShift_8 rfl (lv_at hl 1 rfl) ?_
  refine x_iast hx hb hK hP hD hS 2 0 rfl rfl (k := m) (by omega) (by decide) dX4_addShift_9 (fun H locs hP hD hS => ?_)
  have hP : va_P D vwCl (svW c cA m lo (va_up a 3 (upd (a 3) m p1))) H := hP
  have hD : va_D (va_A (svW c cA m lo a) sz) (svW c cA m lo (va_up a 3 (upd (a 3) m p1))) := hD
  refine lv_aload_n hx hb dX4_addShift_10 rfl (lv_at hl 0 rfl) ?_
  refine va_get (D := D) (ci := 4) (v := .ref (c 4)) (C := RX4) (T := TX4) (N := 6) hx hb hts hiX40 hown hK.1 hP 0 rfl rfl 2 (by decide) f2 (fun _ h9 => h9) rfl dX4_addShift_11 ?_
  refine lv_aload_n hx hb dX4_addShift_14 rfl (lv_at hl 0 rfl) ?_
  refine va_get (D := D) (ci := 4) (v := .int (nI m)) (C := RX4) (T := TX4) (N := 6) hx hb hts hiX40 hown hK.1 hP 0 rfl rfl 5 (by decide) f1 (fun _ h9 => h9) rfl dX4_addShift_15 ?_
  refine lv_iload_n hx hb dX4_addShift_18 rfl (lv_at hl 2 rfl) ?_
  refine x_iast hx hb hK hP hD hS 3 0 rfl rfl (k := m) (by omega) (by decide) dX4_addShift_19 (fun H locs hP hD hS => ?_)
  have hP : va_P D vwCl (svW c cA m lo (va_up (va_up a 3 (upd (a 3) m p1)) 4 (upd (a 4) m p2))) H := hP
  have hD : va_D (va_A (svW c cA m lo a) sz) (svW c cA m lo (va_up (va_up a 3 (upd (a 3) m p1)) 4 (upd (a 4) m p2))) := hD
  refine lv_aload_n hx hb dX4_addShift_20 rfl (lv_at hl 0 rfl) ?_
  refine va_get (D := D) (ci := 4) (v := .ref (c 5)) (C := RX4) (T := TX4) (N := 6) hx hb hts hiX40 hown hK.1 hP 0 rfl rfl 3 (by decide) f3 (fun _ h9 => h9) rfl dX4_addShift_21 ?_
  refine lv_aload_n hx hb dX4_addShift_24 rfl (lv_at hl 0 rfl) ?_
  refine va_get (D := D) (ci := 4) (v := .int (nI m)) (C := RX4) (T := TX4) (N := 6) hx hb hts hiX40 hown hK.1 hP 0 rfl rfl 5 (by decide) f1 (fun _ h9 => h9) rfl dX4_addShift_25 ?_
  refine lv_iload_n hx hb dX4_addShift_28 rfl (lv_at hl 3 rfl) ?_
  refine x_iast hx hb hK hP hD hS 4 0 rfl rfl (k := m) (by omega) (by decide) dX4_addShift_29 (fun H locs hP hD hS => ?_)
  have hP : va_P D vwCl (svW c cA m lo (va_up (va_up (va_up a 3 (upd (a 3) m p1)) 4 (upd (a 4) m p2)) 5 (upd (a 5) m p3))) H := hP
  have hD : va_D (va_A (svW c cA m lo a) sz) (svW c cA m lo (va_up (va_up (va_up a 3 (upd (a 3) m p1)) 4 (upd (a 4) m p2)) 5 (upd (a 5) m p3))) := hD
  refine lv_aload_n hx hb dX4_addShift_30 rfl (lv_at hl 0 rfl) ?_
  refine va_get (D := D) (ci := 4) (v := .ref (c 6)) (C := RX4) (T := TX4) (N := 6) hx hb hts hiX40 hown hK.1 hP 0 rfl rfl 4 (by decide) f4 (fun _ h9 => h9) rfl dX4_addShift_31 ?_
  refine lv_aload_n hx hb dX4_addShift_34 rfl (lv_at hl 0 rfl) ?_
  refine va_get (D := D) (ci := 4) (v := .int (nI m)) (C := RX4) (T := TX4) (N := 6) hx hb hts hiX40 hown hK.1 hP 0 rfl rfl 5 (by decide) f1 (fun _ h9 => h9) rfl dX4_addShift_35 ?_
  refine lv_iload hx hb dX4_addShift_38 (lv_at hl 4 rfl) ?_
  refine x_iast hx hb hK hP hD hS 5 0 rfl rfl (k := m) (by omega) (by decide) dX4_addShift_40 (fun H locs hP hD hS => ?_)
  have hP : va_P D vwCl (svW c cA m lo (va_up (va_up (va_up (va_up a 3 (upd (a 3) m p1)) 4 (upd (a 4) m p2)) 5 (upd (a 5) m p3)) 6 (upd (a 6) m p4))) H := hP
  have hD : va_D (va_A (svW c cA m lo a) sz) (svW c cA m lo (va_up (va_up (va_up (va_up a 3 (upd (a 3) m p1)) 4 (upd (a 4) m p2)) 5 (upd (a 5) m p3)) 6 (upd (a 6) m p4))) := hD
  refine lv_aload_n hx hb dX4_addShift_41 rfl (lv_at hl 0 rfl) ?_
  refine lv_dup hx hb dX4_addShift_42 rfl ?_
  refine va_get (D := D) (ci := 4) (v := .int (nI m)) (C := RX4) (T := TX4) (N := 6) hx hb hts hiX40 hown hK.1 hP 0 rfl rfl 5 (by decide) f1 (fun _ h9 => h9) rfl dX4_addShift_43 ?_
  refine lv_iconst (v := 1) hx hb dX4_addShift_46 (by decide) ?_
  refine lv_iadd hx hb dX4_addShift_47 ?_
  refine x_tp (y := nI (m + 1)) (nI_1 m) ?_
  refine va_put (D := D) (ci := 4) (v := .int (nI (m + 1))) (ty := .int) (C := RX4) (T := TX4) (N := 6) hx hb hts hiX40 tyX4 tyX4_ok nmX4 hown hK.1 hP hD hS 0 rfl rfl 5 (by decide) f1 (fun _ h9 => h9) rfl (by decide +kernel) rfl rfl (Nat.le_of_ble_eq_true rfl) dX4_addShift_48 (fun H locs hP hD hS => ?_)
  have hP : va_P D vwCl (svW c cA (m + 1) lo (va_up (va_up (va_up (va_up a 3 (upd (a 3) m p1)) 4 (upd (a 4) m p2)) 5 (upd (a 5) m p3)) 6 (upd (a 6) m p4))) H := hP
  have hD : va_D (va_A (svW c cA m lo a) sz) (svW c cA (m + 1) lo (va_up (va_up (va_up (va_up a 3 (upd (a 3) m p1)) 4 (upd (a 4) m p2)) 5 (upd (a 5) m p3)) 6 (upd (a 6) m p4))) := hD
  exact w_vret () hx hb hr hlk hP hD hS (trivial) dX4_addShift_51

set_option maxHeartbeats 4000000 in
set_option maxRecDepth 100000 in
theorem k4_stepOf (l : Launch) (D : va_G) (c : Nat → Nat) (cA : ClassId) (m : Nat) (lo : Nat → Int32) (a : Nat → Nat → Int32) (j : Nat) (t nu : Int32) (hj : j < 4) (hm : m ≤ 12) : Met l yX4_stepOf wsX4_stepOf ({ frames := 1, cells := 0, slots := 0, locals := 22 }) (rPc D (svW c cA m lo a) [(cA, .int)] [.ref (c 1), .int (nI j), .int t, .int nu]) (vp_Si (fun r => r = nu - lo j - 7 * rOct (a 3) (a 4) (a 5) (a 6) (nI j) t m)) 0 0 (fun _ => False) := by
  refine r_head (C := RX4) (cc := cX4_stepOf) (maxL := 6) (ret := (some .int)) [(0, .ref (c 1)), (1, .int (nI j)), (2, .int t), (3, .int nu)] (by decide) rfl rfl (Nat.le_of_ble_eq_true rfl) rfl ?_
  intro p e s mi below meth cd hx hb hr hlk hml hown hts hP hK ls hl
  have hiX40 : ∀ w ∈ wsX40, w ∈ wsX4_stepOf := fun w h => List.mem_cons_of_mem _ (List.mem_append_right _ h)
  have f0 := hts (.fieldLink RX4 27 "StaffHeads$Staves" "shifts" "I") (List.mem_of_getElem? (i := 1) rfl)
  have f1 := hts (.fieldLink RX4 9 "StaffHeads$Staves" "lowestLine" "[I") (List.mem_of_getElem? (i := 6) rfl)
  have f2 := hts (.fieldLink RX4 15 "StaffHeads$Staves" "shiftStaff" "[I") (List.mem_of_getElem? (i := 2) rfl)
  have f3 := hts (.fieldLink RX4 18 "StaffHeads$Staves" "shiftFrom" "[I") (List.mem_of_getElem? (i := 3) rfl)
  have f4 := hts (.fieldLink RX4 21 "StaffHeads$Staves" "shiftTo" "[I") (List.mem_of_getElem? (i := 4) rfl)
  have f5 := hts (.initialized RX5) (List.mem_of_getElem? (i := 8) rfl)
  have f6 := hts (.static yX5_within) (List.mem_of_getElem? (i := 7) rfl)
  have f7 := hts (.fieldLink RX4 24 "StaffHeads$Staves" "shiftOctaves" "[I") (List.mem_of_getElem? (i := 5) rfl)
  refine lv_iconst (v := 0) hx hb dX4_stepOf_0 (by decide) ?_
  refine x_tp (y := rOct (a 3) (a 4) (a 5) (a 6) (nI j) t 0) rfl ?_
  refine lv_istore (lv' := [(4, .int (rOct (a 3) (a 4) (a 5) (a 6) (nI j) t 0)), (0, .ref (c 1)), (1, .int (nI j)), (2, .int t), (3, .int nu)]) hx hb dX4_stepOf_1 hl (by decide) rfl (fun ls hl => ?_)
  refine lv_iconst (v := 0) hx hb dX4_stepOf_3 (by decide) ?_
  refine x_tp (y := nI 0) nI_0.symm ?_
  refine lv_istore (lv' := [(5, .int (nI 0)), (4, .int (rOct (a 3) (a 4) (a 5) (a 6) (nI j) t 0)), (0, .ref (c 1)), (1, .int (nI j)), (2, .int t), (3, .int nu)]) hx hb dX4_stepOf_4 hl (by decide) rfl (fun ls hl => ?_)
  refine lpR (G := fun ls => W p _ e _ s mi _ below meth cd _ _ _ _ _ (F0 mi 6 ls [])) 6 m (fun q (_ : Unit) => [(0, .ref (c 1)), (1, .int (nI j)), (2, .int t), (3, .int nu), (4, .int (rOct (a 3) (a 4) (a 5) (a 6) (nI j) t q)), (5, .int (nI q))]) (fun _ _ => True) ?_ 0 () (Nat.zero_le _) trivial (lv_sub hl [2, 3, 4, 5, 1, 0] rfl)
  clear hl ls
  intro q gu hq hqI ls hl ihq
  refine lv_iload hx hb dX4_stepOf_6 (lv_at hl 5 rfl) ?_
  refine lv_aload_n hx hb dX4_stepOf_8 rfl (lv_at hl 0 rfl) ?_
  refine va_get (D := D) (ci := 4) (v := .int (nI m)) (C := RX4) (T := TX4) (N := 6) hx hb hts hiX40 hown hK.1 hP 0 rfl rfl 5 (by decide) f0 (fun _ h9 => h9) rfl dX4_stepOf_9 ?_
  refine x_nge (tgt := 65) hx hb dX4_stepOf_12 (by decide) (by omega) (by omega) (fun c_12 => ?_) (fun c_12 => ?_)
  · obtain rfl : m = q := by omega
    refine lv_iload_n hx hb dX4_stepOf_65 rfl (lv_at hl 3 rfl) ?_
    refine lv_aload_n hx hb dX4_stepOf_66 rfl (lv_at hl 0 rfl) ?_
    refine va_get (D := D) (ci := 4) (v := .ref (c 2)) (C := RX4) (T := TX4) (N := 6) hx hb hts hiX40 hown hK.1 hP 0 rfl rfl 0 (by decide) f1 (fun _ h9 => h9) rfl dX4_stepOf_67 ?_
    refine lv_iload_n hx hb dX4_stepOf_70 rfl (lv_at hl 1 rfl) ?_
    refine x_iald hx hb hK hP 1 0 rfl rfl (k := j) (by omega) (by decide) dX4_stepOf_71 ?_
    refine lv_isub hx hb dX4_stepOf_72 ?_
    refine lv_bipush (v := 7) hx hb dX4_stepOf_73 (by decide) ?_
    refine lv_iload hx hb dX4_stepOf_75 (lv_at hl 4 rfl) ?_
    refine lv_imul hx hb dX4_stepOf_77 ?_
    refine lv_isub hx hb dX4_stepOf_78 ?_
    exact r_iret hx hb hr hlk (rfl) dX4_stepOf_79
  · refine lv_aload_n hx hb dX4_stepOf_15 rfl (lv_at hl 0 rfl) ?_
    refine va_get (D := D) (ci := 4) (v := .ref (c 3)) (C := RX4) (T := TX4) (N := 6) hx hb hts hiX40 hown hK.1 hP 0 rfl rfl 1 (by decide) f2 (fun _ h9 => h9) rfl dX4_stepOf_16 ?_
    refine lv_iload hx hb dX4_stepOf_19 (lv_at hl 5 rfl) ?_
    refine x_iald hx hb hK hP 2 0 rfl rfl (k := q) (by omega) (by decide) dX4_stepOf_21 ?_
    refine lv_iload_n hx hb dX4_stepOf_22 rfl (lv_at hl 1 rfl) ?_
    refine lv_icmp_ne (tgt := 59) hx hb dX4_stepOf_23 (by decide) (fun c_23 => ?_) (fun c_23 => ?_)
    · have hl := lv_cast (l' := [(0, .ref (c 1)), (1, .int (nI j)), (2, .int t), (3, .int nu), (4, .int (rOct (a 3) (a 4) (a 5) (a 6) (nI j) t (q + 1))), (5, .int (nI q))]) hl (by rw [show rOct (a 3) (a 4) (a 5) (a 6) (nI j) t q = rOct (a 3) (a 4) (a 5) (a 6) (nI j) t (q + 1) from (by rw [rOct, if_neg (fun h => c_23 h.1)]; exact (Int32.add_zero _).symm)])
      refine lv_iinc (v := nI (q + 1)) (lv' := [(5, .int (nI (q + 1))), (0, .ref (c 1)), (1, .int (nI j)), (2, .int t), (3, .int nu), (4, .int (rOct (a 3) (a 4) (a 5) (a 6) (nI j) t (q + 1)))]) hx hb dX4_stepOf_59 hl (k := 5) rfl (x_inc q) (by decide) rfl (fun ls hl => ?_)
      refine lv_goto (tgt := 6) hx hb dX4_stepOf_62 (by decide) ?_
      exact ihq (by omega) () _ trivial (lv_sub hl [1, 2, 3, 4, 5, 0] rfl)
    · refine lv_iload_n hx hb dX4_stepOf_26 rfl (lv_at hl 2 rfl) ?_
      refine lv_aload_n hx hb dX4_stepOf_27 rfl (lv_at hl 0 rfl) ?_
      refine va_get (D := D) (ci := 4) (v := .ref (c 4)) (C := RX4) (T := TX4) (N := 6) hx hb hts hiX40 hown hK.1 hP 0 rfl rfl 2 (by decide) f3 (fun _ h9 => h9) rfl dX4_stepOf_28 ?_
      refine lv_iload hx hb dX4_stepOf_31 (lv_at hl 5 rfl) ?_
      refine x_iald hx hb hK hP 3 0 rfl rfl (k := q) (by omega) (by decide) dX4_stepOf_33 ?_
      refine lv_aload_n hx hb dX4_stepOf_34 rfl (lv_at hl 0 rfl) ?_
      refine va_get (D := D) (ci := 4) (v := .ref (c 5)) (C := RX4) (T := TX4) (N := 6) hx hb hts hiX40 hown hK.1 hP 0 rfl rfl 3 (by decide) f4 (fun _ h9 => h9) rfl dX4_stepOf_35 ?_
      refine lv_iload hx hb dX4_stepOf_38 (lv_at hl 5 rfl) ?_
      refine x_iald hx hb hK hP 4 0 rfl rfl (k := q) (by omega) (by decide) dX4_stepOf_40 ?_
      refine rcSNi (As := [.int t, .int (a 4 q), .int (a 5 q)]) (rest := []) ⟨hx, hb, hml, hown, hts⟩ (k5_within l t (a 4 q) (a 5 q)) ⟨va_cnB (host := RX5) 3 hts gX4_stepOf_X5_within_n38 rfl rfl rfl hK.2.2.2.2.2.2.2.1 f5 (by decide +kernel) ⟨Nat.le_of_ble_eq_true rfl, Nat.le_of_ble_eq_true rfl⟩, f6, trivial⟩ rfl hl.1 rfl (Nat.le_of_ble_eq_true rfl) dX4_stepOf_41 ⟨Nat.zero_le _, Nat.zero_le _⟩ ?_
      refine x_ifeq (tgt := 59) hx hb dX4_stepOf_44 (by decide) (fun (c_44 : ¬ (okI t (a 4 q) (a 5 q))) => ?_) (fun (c_44 : okI t (a 4 q) (a 5 q)) => ?_)
      · have hl := lv_cast (l' := [(0, .ref (c 1)), (1, .int (nI j)), (2, .int t), (3, .int nu), (4, .int (rOct (a 3) (a 4) (a 5) (a 6) (nI j) t (q + 1))), (5, .int (nI q))]) hl (by rw [show rOct (a 3) (a 4) (a 5) (a 6) (nI j) t q = rOct (a 3) (a 4) (a 5) (a 6) (nI j) t (q + 1) from (by rw [rOct, if_neg (fun h => c_44 h.2)]; exact (Int32.add_zero _).symm)])
        refine lv_iinc (v := nI (q + 1)) (lv' := [(5, .int (nI (q + 1))), (0, .ref (c 1)), (1, .int (nI j)), (2, .int t), (3, .int nu), (4, .int (rOct (a 3) (a 4) (a 5) (a 6) (nI j) t (q + 1)))]) hx hb dX4_stepOf_59 hl (k := 5) rfl (x_inc q) (by decide) rfl (fun ls hl => ?_)
        refine lv_goto (tgt := 6) hx hb dX4_stepOf_62 (by decide) ?_
        exact ihq (by omega) () _ trivial (lv_sub hl [1, 2, 3, 4, 5, 0] rfl)
      · refine lv_iload hx hb dX4_stepOf_47 (lv_at hl 4 rfl) ?_
        refine lv_aload_n hx hb dX4_stepOf_49 rfl (lv_at hl 0 rfl) ?_
        refine va_get (D := D) (ci := 4) (v := .ref (c 6)) (C := RX4) (T := TX4) (N := 6) hx hb hts hiX40 hown hK.1 hP 0 rfl rfl 4 (by decide) f7 (fun _ h9 => h9) rfl dX4_stepOf_50 ?_
        refine lv_iload hx hb dX4_stepOf_53 (lv_at hl 5 rfl) ?_
        refine x_iald hx hb hK hP 5 0 rfl rfl (k := q) (by omega) (by decide) dX4_stepOf_55 ?_
        refine lv_iadd hx hb dX4_stepOf_56 ?_
        refine x_tp (y := rOct (a 3) (a 4) (a 5) (a 6) (nI j) t (q + 1)) (by rw [rOct, if_pos ⟨c_23, c_44⟩]) ?_
        refine lv_istore (lv' := [(4, .int (rOct (a 3) (a 4) (a 5) (a 6) (nI j) t (q + 1))), (0, .ref (c 1)), (1, .int (nI j)), (2, .int t), (3, .int nu), (5, .int (nI q))]) hx hb dX4_stepOf_57 hl (by decide) rfl (fun ls hl => ?_)
        refine lv_iinc (v := nI (q + 1)) (lv' := [(5, .int (nI (q + 1))), (4, .int (rOct (a 3) (a 4) (a 5) (a 6) (nI j) t (q + 1))), (0, .ref (c 1)), (1, .int (nI j)), (2, .int t), (3, .int nu)]) hx hb dX4_stepOf_59 hl (k := 5) rfl (x_inc q) (by decide) rfl (fun ls hl => ?_)
        refine lv_goto (tgt := 6) hx hb dX4_stepOf_62 (by decide) ?_
        exact ihq (by omega) () _ trivial (lv_sub hl [2, 3, 4, 5, 1, 0] rfl)

set_option maxHeartbeats 4000000 in
set_option maxRecDepth 100000 in
theorem k2_has (l : Launch) (D : va_G) (c : Nat → Nat) (cA : ClassId) (n : Nat) (a : Nat → Nat → Int32) (k : Int32) : Met l yX2_has wsX2_has ({ frames := 1, cells := 0, slots := 0, locals := 22 }) (rPc D (noW c cA n a) [(cA, .int)] [.ref (c 7), .int k]) (vp_Si (fun r => r = bv (okI k 0 (nI n - 1)))) 0 0 (fun _ => False) := by
  refine r_head (C := RX2) (cc := cX2_has) (maxL := 2) (ret := (some .boolean)) [(0, .ref (c 7)), (1, .int k)] (by decide) rfl rfl (Nat.le_of_ble_eq_true rfl) rfl ?_
  intro p e s mi below meth cd hx hb hr hlk hml hown hts hP hK ls hl
  have hiX20 : ∀ w ∈ wsX20, w ∈ wsX2_has := fun w h => List.mem_cons_of_mem _ (List.mem_append_right _ h)
  have f0 := hts (.fieldLink RX2 30 "StaffHeads$Notes" "count" "I") (List.mem_of_getElem? (i := 1) rfl)
  have f1 := hts (.initialized RX5) (List.mem_of_getElem? (i := 3) rfl)
  have f2 := hts (.static yX5_within) (List.mem_of_getElem? (i := 2) rfl)
  refine lv_iload_n hx hb dX2_has_0 rfl (lv_at hl 1 rfl) ?_
  refine lv_iconst (v := 0) hx hb dX2_has_1 (by decide) ?_
  refine lv_aload_n hx hb dX2_has_2 rfl (lv_at hl 0 rfl) ?_
  refine va_get (D := D) (ci := 2) (v := .int (nI n)) (C := RX2) (T := TX2) (N := 7) hx hb hts hiX20 hown hK.1 hP 0 rfl rfl 6 (by decide) f0 (fun _ h9 => h9) rfl dX2_has_3 ?_
  refine lv_iconst (v := 1) hx hb dX2_has_6 (by decide) ?_
  refine lv_isub hx hb dX2_has_7 ?_
  refine rcSNi (As := [.int k, .int 0, .int ((nI n) - 1)]) (rest := []) ⟨hx, hb, hml, hown, hts⟩ (k5_within l k 0 ((nI n) - 1)) ⟨va_cnB (host := RX5) 3 hts gX2_has_X5_within_n34 rfl rfl rfl hK.2.2.2.2.2.2.1 f1 (by decide +kernel) ⟨Nat.le_of_ble_eq_true rfl, Nat.le_of_ble_eq_true rfl⟩, f2, trivial⟩ rfl hl.1 rfl (Nat.le_of_ble_eq_true rfl) dX2_has_8 ⟨Nat.zero_le _, Nat.zero_le _⟩ ?_
  exact r_zret hx hb hr hlk bv_nar (rfl) dX2_has_11

set_option maxHeartbeats 4000000 in
set_option maxRecDepth 100000 in
theorem k2_anyOn (l : Launch) (D : va_G) (c : Nat → Nat) (cA : ClassId) (n : Nat) (a : Nat → Nat → Int32) (p1 : Int32) (hn : n ≤ 60) : Met l yX2_anyOn wsX2_anyOn ({ frames := 0, cells := 0, slots := 0, locals := 0 }) (rPc D (noW c cA n a) [(cA, .int)] [.ref (c 7), .int p1]) (vp_Si (fun r => r = bv (¬ ∀ q, q < n → ¬ a 7 q = p1))) 0 0 (fun _ => False) := by
  refine r_head (C := RX2) (cc := cX2_anyOn) (maxL := 3) (ret := (some .boolean)) [(0, .ref (c 7)), (1, .int p1)] (by decide) rfl rfl (Nat.le_of_ble_eq_true rfl) rfl ?_
  intro p e s mi below meth cd hx hb hr hlk hml hown hts hP hK ls hl
  have hiX20 : ∀ w ∈ wsX20, w ∈ wsX2_anyOn := fun w h => List.mem_cons_of_mem _ (List.mem_append_right _ h)
  have f0 := hts (.fieldLink RX2 30 "StaffHeads$Notes" "count" "I") (List.mem_of_getElem? (i := 1) rfl)
  have f1 := hts (.fieldLink RX2 9 "StaffHeads$Notes" "staff" "[I") (List.mem_of_getElem? (i := 2) rfl)
  refine lv_iconst (v := 0) hx hb dX2_anyOn_0 (by decide) ?_
  refine x_tp (y := nI 0) nI_0.symm ?_
  refine lv_istore_n (lv' := [(2, .int (nI 0)), (0, .ref (c 7)), (1, .int p1)]) hx hb dX2_anyOn_1 rfl hl (by decide) rfl (fun ls hl => ?_)
  refine lpR (G := fun ls => W p _ e _ s mi _ below meth cd _ _ _ _ _ (F0 mi 2 ls [])) 3 n (fun k (_ : Unit) => [(0, .ref (c 7)), (1, .int p1), (2, .int (nI k))]) (fun k _ => ∀ q, q < k → ¬ a 7 q = p1) ?_ 0 () (Nat.zero_le _) (fun q h => absurd h (Nat.not_lt_zero q)) (lv_sub hl [1, 2, 0] rfl)
  clear hl ls
  intro k gu hk hkI ls hl ihk
  refine lv_iload_n hx hb dX2_anyOn_2 rfl (lv_at hl 2 rfl) ?_
  refine lv_aload_n hx hb dX2_anyOn_3 rfl (lv_at hl 0 rfl) ?_
  refine va_get (D := D) (ci := 2) (v := .int (nI n)) (C := RX2) (T := TX2) (N := 7) hx hb hts hiX20 hown hK.1 hP 0 rfl rfl 6 (by decide) f0 (fun _ h9 => h9) rfl dX2_anyOn_4 ?_
  refine x_nge (tgt := 28) hx hb dX2_anyOn_7 (by decide) (by omega) (by omega) (fun c_7 => ?_) (fun c_7 => ?_)
  · obtain rfl : n = k := by omega
    refine lv_iconst (v := 0) hx hb dX2_anyOn_28 (by decide) ?_
    exact r_zret hx hb hr hlk rfl ((bv_f (fun h => h hkI)).symm) dX2_anyOn_29
  · refine lv_aload_n hx hb dX2_anyOn_10 rfl (lv_at hl 0 rfl) ?_
    refine va_get (D := D) (ci := 2) (v := .ref (c 8)) (C := RX2) (T := TX2) (N := 7) hx hb hts hiX20 hown hK.1 hP 0 rfl rfl 0 (by decide) f1 (fun _ h9 => h9) rfl dX2_anyOn_11 ?_
    refine lv_iload_n hx hb dX2_anyOn_14 rfl (lv_at hl 2 rfl) ?_
    refine x_iald hx hb hK hP 1 0 rfl rfl (k := k) (by omega) (by decide) dX2_anyOn_15 ?_
    refine lv_iload_n hx hb dX2_anyOn_16 rfl (lv_at hl 1 rfl) ?_
    refine lv_icmp_ne (tgt := 22) hx hb dX2_anyOn_17 (by decide) (fun c_17 => ?_) (fun c_17 => ?_)
    · refine lv_iinc (v := nI (k + 1)) (lv' := [(2, .int (nI (k + 1))), (0, .ref (c 7)), (1, .int p1)]) hx hb dX2_anyOn_22 hl (k := 2) rfl (x_inc k) (by decide) rfl (fun ls hl => ?_)
      refine lv_goto (tgt := 2) hx hb dX2_anyOn_25 (by decide) ?_
      exact ihk (by omega) () _ (lt_s hkI c_17) (lv_sub hl [1, 2, 0] rfl)
    · refine lv_iconst (v := 1) hx hb dX2_anyOn_20 (by decide) ?_
      exact r_zret hx hb hr hlk rfl ((bv_t (fun h => h k (by omega) c_17)).symm) dX2_anyOn_21

set_option maxHeartbeats 4000000 in
set_option maxRecDepth 100000 in
theorem k2_together (l : Launch) (D : va_G) (c : Nat → Nat) (cA : ClassId) (n : Nat) (a : Nat → Nat → Int32) (x y : Nat) (hx0 : x < 60) (hy0 : y < 60) : Met l yX2_together wsX2_together ({ frames := 0, cells := 0, slots := 0, locals := 0 }) (rPc D (noW c cA n a) [(cA, .int)] [.ref (c 7), .int (nI x), .int (nI y)]) (vp_Si (fun r => r = bv (rAt (a 7) (a 9) y (a 7 x) (a 9 x)))) 0 0 (fun _ => False) := by
  refine r_head (C := RX2) (cc := cX2_together) (maxL := 3) (ret := (some .boolean)) [(0, .ref (c 7)), (1, .int (nI x)), (2, .int (nI y))] (by decide) rfl rfl (Nat.le_of_ble_eq_true rfl) rfl ?_
  intro p e s mi below meth cd hx hb hr hlk hml hown hts hP hK ls hl
  have hiX20 : ∀ w ∈ wsX20, w ∈ wsX2_together := fun w h => List.mem_cons_of_mem _ (List.mem_append_right _ h)
  have f0 := hts (.fieldLink RX2 9 "StaffHeads$Notes" "staff" "[I") (List.mem_of_getElem? (i := 1) rfl)
  have f1 := hts (.fieldLink RX2 18 "StaffHeads$Notes" "tick" "[I") (List.mem_of_getElem? (i := 2) rfl)
  refine lv_aload_n hx hb dX2_together_0 rfl (lv_at hl 0 rfl) ?_
  refine va_get (D := D) (ci := 2) (v := .ref (c 8)) (C := RX2) (T := TX2) (N := 7) hx hb hts hiX20 hown hK.1 hP 0 rfl rfl 0 (by decide) f0 (fun _ h9 => h9) rfl dX2_together_1 ?_
  refine lv_iload_n hx hb dX2_together_4 rfl (lv_at hl 1 rfl) ?_
  refine x_iald hx hb hK hP 1 0 rfl rfl (k := x) (by omega) (by decide) dX2_together_5 ?_
  refine lv_aload_n hx hb dX2_together_6 rfl (lv_at hl 0 rfl) ?_
  refine va_get (D := D) (ci := 2) (v := .ref (c 8)) (C := RX2) (T := TX2) (N := 7) hx hb hts hiX20 hown hK.1 hP 0 rfl rfl 0 (by decide) f0 (fun _ h9 => h9) rfl dX2_together_7 ?_
  refine lv_iload_n hx hb dX2_together_10 rfl (lv_at hl 2 rfl) ?_
  refine x_iald hx hb hK hP 1 0 rfl rfl (k := y) (by omega) (by decide) dX2_together_11 ?_
  refine lv_icmp_ne (tgt := 34) hx hb dX2_together_12 (by decide) (fun c_12 => ?_) (fun c_12 => ?_)
  · refine lv_iconst (v := 0) hx hb dX2_together_34 (by decide) ?_
    exact r_zret hx hb hr hlk rfl ((bv_f (fun h => c_12 h.1.symm)).symm) dX2_together_35
  · refine lv_aload_n hx hb dX2_together_15 rfl (lv_at hl 0 rfl) ?_
    refine va_get (D := D) (ci := 2) (v := .ref (c 10)) (C := RX2) (T := TX2) (N := 7) hx hb hts hiX20 hown hK.1 hP 0 rfl rfl 2 (by decide) f1 (fun _ h9 => h9) rfl dX2_together_16 ?_
    refine lv_iload_n hx hb dX2_together_19 rfl (lv_at hl 1 rfl) ?_
    refine x_iald hx hb hK hP 3 0 rfl rfl (k := x) (by omega) (by decide) dX2_together_20 ?_
    refine lv_aload_n hx hb dX2_together_21 rfl (lv_at hl 0 rfl) ?_
    refine va_get (D := D) (ci := 2) (v := .ref (c 10)) (C := RX2) (T := TX2) (N := 7) hx hb hts hiX20 hown hK.1 hP 0 rfl rfl 2 (by decide) f1 (fun _ h9 => h9) rfl dX2_together_22 ?_
    refine lv_iload_n hx hb dX2_together_25 rfl (lv_at hl 2 rfl) ?_
    refine x_iald hx hb hK hP 3 0 rfl rfl (k := y) (by omega) (by decide) dX2_together_26 ?_
    refine lv_icmp_ne (tgt := 34) hx hb dX2_together_27 (by decide) (fun c_27 => ?_) (fun c_27 => ?_)
    · refine lv_iconst (v := 0) hx hb dX2_together_34 (by decide) ?_
      exact r_zret hx hb hr hlk rfl ((bv_f (fun h => c_27 h.2.symm)).symm) dX2_together_35
    · refine lv_iconst (v := 1) hx hb dX2_together_30 (by decide) ?_
      refine lv_goto (tgt := 35) hx hb dX2_together_31 (by decide) ?_
      exact r_zret hx hb hr hlk rfl ((bv_t ⟨c_12.symm, c_27.symm⟩).symm) dX2_together_35

set_option maxHeartbeats 4000000 in
set_option maxRecDepth 100000 in
theorem k2_add (l : Launch) (D : va_G) (c : Nat → Nat) (cA : ClassId) (n : Nat) (a : Nat → Nat → Int32) (sz : Nat) (p1 p2 p3 p4 p5 p6 : Int32) (hn : n < 60) : Met l yX2_add wsX2_add ({ frames := 0, cells := 0, slots := 0, locals := 0 }) (wPc D (noW c cA n a) [(cA, .int)] sz [.ref (c 7), .int p1, .int p2, .int p3, .int p4, .int p5, .int p6]) (va_Qv (fun _ : Unit => True) (wB D (noW c cA n a) sz (fun _ => noW c cA (n + 1) (va_up (va_up (va_up (va_up (va_up (va_up a 7 (upd (a 7) n p1)) 8 (upd (a 8) n p2)) 9 (upd (a 9) n p3)) 10 (upd (a 10) n p4)) 11 (upd (a 11) n p5)) 12 (upd (a 12) n p6)))) (va_A (noW c cA n a) sz)) 0 0 (va_A (noW c cA n a) sz) := by
  refine w_head (C := RX2) (cc := cX2_add) (maxL := 7) (ret := none) [(0, .ref (c 7)), (1, .int p1), (2, .int p2), (3, .int p3), (4, .int p4), (5, .int p5), (6, .int p6)] (by decide) rfl rfl (Nat.le_of_ble_eq_true rfl) rfl ?_
  intro p e s mi below meth cd hx hb hr hlk hml hown hin hts hP hD hS hA hK ls hl
  have hiX20 : ∀ w ∈ wsX20, w ∈ wsX2_add := fun w h => List.mem_cons_of_mem _ (List.mem_append_right _ h)
  have f0 := hts (.fieldLink RX2 9 "StaffHeads$Notes" "staff" "[I") (List.mem_of_getElem? (i := 1) rfl)
  have f1 := hts (.fieldLink RX2 30 "StaffHeads$Notes" "count" "I") (List.mem_of_getElem? (i := 2) rfl)
  have f2 := hts (.fieldLink RX2 15 "StaffHeads$Notes" "voice" "[I") (List.mem_of_getElem? (i := 3) rfl)
  have f3 := hts (.fieldLink RX2 18 "StaffHeads$Notes" "tick" "[I") (List.mem_of_getElem? (i := 4) rfl)
  have f4 := hts (.fieldLink RX2 21 "StaffHeads$Notes" "number" "[I") (List.mem_of_getElem? (i := 5) rfl)
  have f5 := hts (.fieldLink RX2 24 "StaffHeads$Notes" "sign" "[I") (List.mem_of_getElem? (i := 6) rfl)
  have f6 := hts (.fieldLink RX2 27 "StaffHeads$Notes" "head" "[I") (List.mem_of_getElem? (i := 7) rfl)
  refine lv_aload_n hx hb dX2_add_0 rfl (lv_at hl 0 rfl) ?_
  refine va_get (D := D) (ci := 2) (v := .ref (c 8)) (C := RX2) (T := TX2) (N := 7) hx hb hts hiX20 hown hK.1 hP 0 rfl rfl 0 (by decide) f0 (fun _ h9 => h9) rfl dX2_add_1 ?_
  refine lv_aload_n hx hb dX2_add_4 rfl (lv_at hl 0 rfl) ?_
  refine va_get (D := D) (ci := 2) (v := .int (nI n)) (C := RX2) (T := TX2) (N := 7) hx hb hts hiX20 hown hK.1 hP 0 rfl rfl 6 (by decide) f1 (fun _ h9 => h9) rfl dX2_add_5 ?_
  refine lv_iload_n hx hb dX2_add_8 rfl (lv_at hl 1 rfl) ?_
  refine x_iast hx hb hK hP hD hS 1 0 rfl rfl (k := n) (by omega) (by decide) dX2_add_9 (fun H locs hP hD hS => ?_)
  have hP : va_P D vwCl (noW c cA n (va_up a 7 (upd (a 7) n p1))) H := hP
  have hD : va_D (va_A (noW c cA n a) sz) (noW c cA n (va_up a 7 (upd (a 7) n p1))) := hD
  refine lv_aload_n hx hb dX2_add_10 rfl (lv_at hl 0 rfl) ?_
  refine va_get (D := D) (ci := 2) (v := .ref (c 9)) (C := RX2) (T := TX2) (N := 7) hx hb hts hiX20 hown hK.1 hP 0 rfl rfl 1 (by decide) f2 (fun _ h9 => h9) rfl dX2_add_11 ?_
  refine lv_aload_n hx hb dX2_add_14 rfl (lv_at hl 0 rfl) ?_
  refine va_get (D := D) (ci := 2) (v := .int (nI n)) (C := RX2) (T := TX2) (N := 7) hx hb hts hiX20 hown hK.1 hP 0 rfl rfl 6 (by decide) f1 (fun _ h9 => h9) rfl dX2_add_15 ?_
  refine lv_iload_n hx hb dX2_add_18 rfl (lv_at hl 2 rfl) ?_
  refine x_iast hx hb hK hP hD hS 2 0 rfl rfl (k := n) (by omega) (by decide) dX2_add_19 (fun H locs hP hD hS => ?_)
  have hP : va_P D vwCl (noW c cA n (va_up (va_up a 7 (upd (a 7) n p1)) 8 (upd (a 8) n p2))) H := hP
  have hD : va_D (va_A (noW c cA n a) sz) (noW c cA n (va_up (va_up a 7 (upd (a 7) n p1)) 8 (upd (a 8) n p2))) := hD
  refine lv_aload_n hx hb dX2_add_20 rfl (lv_at hl 0 rfl) ?_
  refine va_get (D := D) (ci := 2) (v := .ref (c 10)) (C := RX2) (T := TX2) (N := 7) hx hb hts hiX20 hown hK.1 hP 0 rfl rfl 2 (by decide) f3 (fun _ h9 => h9) rfl dX2_add_21 ?_
  refine lv_aload_n hx hb dX2_add_24 rfl (lv_at hl 0 rfl) ?_
  refine va_get (D := D) (ci := 2) (v := .int (nI n)) (C := RX2) (T := TX2) (N := 7) hx hb hts hiX20 hown hK.1 hP 0 rfl rfl 6 (by decide) f1 (fun _ h9 => h9) rfl dX2_add_25 ?_
  refine lv_iload_n hx hb dX2_add_28 rfl (lv_at hl 3 rfl) ?_
  refine x_iast hx hb hK hP hD hS 3 0 rfl rfl (k := n) (by omega) (by decide) dX2_add_29 (fun H locs hP hD hS => ?_)
  have hP : va_P D vwCl (noW c cA n (va_up (va_up (va_up a 7 (upd (a 7) n p1)) 8 (upd (a 8) n p2)) 9 (upd (a 9) n p3))) H := hP
  have hD : va_D (va_A (noW c cA n a) sz) (noW c cA n (va_up (va_up (va_up a 7 (upd (a 7) n p1)) 8 (upd (a 8) n p2)) 9 (upd (a 9) n p3))) := hD
  refine lv_aload_n hx hb dX2_add_30 rfl (lv_at hl 0 rfl) ?_
  refine va_get (D := D) (ci := 2) (v := .ref (c 11)) (C := RX2) (T := TX2) (N := 7) hx hb hts hiX20 hown hK.1 hP 0 rfl rfl 3 (by decide) f4 (fun _ h9 => h9) rfl dX2_add_31 ?_
  refine lv_aload_n hx hb dX2_add_34 rfl (lv_at hl 0 rfl) ?_
  refine va_get (D := D) (ci := 2) (v := .int (nI n)) (C := RX2) (T := TX2) (N := 7) hx hb hts hiX20 hown hK.1 hP 0 rfl rfl 6 (by decide) f1 (fun _ h9 => h9) rfl dX2_add_35 ?_
  refine lv_iload hx hb dX2_add_38 (lv_at hl 4 rfl) ?_
  refine x_iast hx hb hK hP hD hS 4 0 rfl rfl (k := n) (by omega) (by decide) dX2_add_40 (fun H locs hP hD hS => ?_)
  have hP : va_P D vwCl (noW c cA n (va_up (va_up (va_up (va_up a 7 (upd (a 7) n p1)) 8 (upd (a 8) n p2)) 9 (upd (a 9) n p3)) 10 (upd (a 10) n p4))) H := hP
  have hD : va_D (va_A (noW c cA n a) sz) (noW c cA n (va_up (va_up (va_up (va_up a 7 (upd (a 7) n p1)) 8 (upd (a 8) n p2)) 9 (upd (a 9) n p3)) 10 (upd (a 10) n p4))) := hD
  refine lv_aload_n hx hb dX2_add_41 rfl (lv_at hl 0 rfl) ?_
  refine va_get (D := D) (ci := 2) (v := .ref (c 12)) (C := RX2) (T := TX2) (N := 7) hx hb hts hiX20 hown hK.1 hP 0 rfl rfl 4 (by decide) f5 (fun _ h9 => h9) rfl dX2_add_42 ?_
  refine lv_aload_n hx hb dX2_add_45 rfl (lv_at hl 0 rfl) ?_
  refine va_get (D := D) (ci := 2) (v := .int (nI n)) (C := RX2) (T := TX2) (N := 7) hx hb hts hiX20 hown hK.1 hP 0 rfl rfl 6 (by decide) f1 (fun _ h9 => h9) rfl dX2_add_46 ?_
  refine lv_iload hx hb dX2_add_49 (lv_at hl 5 rfl) ?_
  refine x_iast hx hb hK hP hD hS 5 0 rfl rfl (k := n) (by omega) (by decide) dX2_add_51 (fun H locs hP hD hS => ?_)
  have hP : va_P D vwCl (noW c cA n (va_up (va_up (va_up (va_up (va_up a 7 (upd (a 7) n p1)) 8 (upd (a 8) n p2)) 9 (upd (a 9) n p3)) 10 (upd (a 10) n p4)) 11 (upd (a 11) n p5))) H := hP
  have hD : va_D (va_A (noW c cA n a) sz) (noW c cA n (va_up (va_up (va_up (va_up (va_up a 7 (upd (a 7) n p1)) 8 (upd (a 8) n p2)) 9 (upd (a 9) n p3)) 10 (upd (a 10) n p4)) 11 (upd (a 11) n p5))) := hD
  refine lv_aload_n hx hb dX2_add_52 rfl (lv_at hl 0 rfl) ?_
  refine va_get (D := D) (ci := 2) (v := .ref (c 13)) (C := RX2) (T := TX2) (N := 7) hx hb hts hiX20 hown hK.1 hP 0 rfl rfl 5 (by decide) f6 (fun _ h9 => h9) rfl dX2_add_53 ?_
  refine lv_aload_n hx hb dX2_add_56 rfl (lv_at hl 0 rfl) ?_
  refine va_get (D := D) (ci := 2) (v := .int (nI n)) (C := RX2) (T := TX2) (N := 7) hx hb hts hiX20 hown hK.1 hP 0 rfl rfl 6 (by decide) f1 (fun _ h9 => h9) rfl dX2_add_57 ?_
  refine lv_iload hx hb dX2_add_60 (lv_at hl 6 rfl) ?_
  refine x_iast hx hb hK hP hD hS 6 0 rfl rfl (k := n) (by omega) (by decide) dX2_add_62 (fun H locs hP hD hS => ?_)
  have hP : va_P D vwCl (noW c cA n (va_up (va_up (va_up (va_up (va_up (va_up a 7 (upd (a 7) n p1)) 8 (upd (a 8) n p2)) 9 (upd (a 9) n p3)) 10 (upd (a 10) n p4)) 11 (upd (a 11) n p5)) 12 (upd (a 12) n p6))) H := hP
  have hD : va_D (va_A (noW c cA n a) sz) (noW c cA n (va_up (va_up (va_up (va_up (va_up (va_up a 7 (upd (a 7) n p1)) 8 (upd (a 8) n p2)) 9 (upd (a 9) n p3)) 10 (upd (a 10) n p4)) 11 (upd (a 11) n p5)) 12 (upd (a 12) n p6))) := hD
  refine lv_aload_n hx hb dX2_add_63 rfl (lv_at hl 0 rfl) ?_
  refine lv_dup hx hb dX2_add_64 rfl ?_
  refine va_get (D := D) (ci := 2) (v := .int (nI n)) (C := RX2) (T := TX2) (N := 7) hx hb hts hiX20 hown hK.1 hP 0 rfl rfl 6 (by decide) f1 (fun _ h9 => h9) rfl dX2_add_65 ?_
  refine lv_iconst (v := 1) hx hb dX2_add_68 (by decide) ?_
  refine lv_iadd hx hb dX2_add_69 ?_
  refine x_tp (y := nI (n + 1)) (nI_1 n) ?_
  refine va_put (D := D) (ci := 2) (v := .int (nI (n + 1))) (ty := .int) (C := RX2) (T := TX2) (N := 7) hx hb hts hiX20 tyX2 tyX2_ok nmX2 hown hK.1 hP hD hS 0 rfl rfl 6 (by decide) f1 (fun _ h9 => h9) rfl (by decide +kernel) rfl rfl (Nat.le_of_ble_eq_true rfl) dX2_add_70 (fun H locs hP hD hS => ?_)
  have hP : va_P D vwCl (noW c cA (n + 1) (va_up (va_up (va_up (va_up (va_up (va_up a 7 (upd (a 7) n p1)) 8 (upd (a 8) n p2)) 9 (upd (a 9) n p3)) 10 (upd (a 10) n p4)) 11 (upd (a 11) n p5)) 12 (upd (a 12) n p6))) H := hP
  have hD : va_D (va_A (noW c cA n a) sz) (noW c cA (n + 1) (va_up (va_up (va_up (va_up (va_up (va_up a 7 (upd (a 7) n p1)) 8 (upd (a 8) n p2)) 9 (upd (a 9) n p3)) 10 (upd (a 10) n p4)) 11 (upd (a 11) n p5)) 12 (upd (a 12) n p6))) := hD
  exact w_vret () hx hb hr hlk hP hD hS (trivial) dX2_add_73

set_option maxHeartbeats 4000000 in
set_option maxRecDepth 100000 in
theorem k2_remove (l : Launch) (D : va_G) (c : Nat → Nat) (cA : ClassId) (n : Nat) (a : Nat → Nat → Int32) (sz : Nat) (j : Nat) (hn : n ≤ 60) (hj : j < n) : Met l yX2_remove wsX2_remove ({ frames := 0, cells := 0, slots := 0, locals := 0 }) (wPc D (noW c cA n a) [(cA, .int)] sz [.ref (c 7), .int (nI j)]) (va_Qv (fun _ : Unit => True) (wB D (noW c cA n a) sz (fun _ => noW c cA (n - 1) (rDrA a j (n - 1 - j)))) (va_A (noW c cA n a) sz)) 0 0 (va_A (noW c cA n a) sz) := by
  refine w_head (C := RX2) (cc := cX2_remove) (maxL := 3) (ret := none) [(0, .ref (c 7)), (1, .int (nI j))] (by decide) rfl rfl (Nat.le_of_ble_eq_true rfl) rfl ?_
  intro p e s mi below meth cd hx hb hr hlk hml hown hin hts hP hD hS hA hK ls hl
  have hiX20 : ∀ w ∈ wsX20, w ∈ wsX2_remove := fun w h => List.mem_cons_of_mem _ (List.mem_append_right _ h)
  have f0 := hts (.fieldLink RX2 30 "StaffHeads$Notes" "count" "I") (List.mem_of_getElem? (i := 1) rfl)
  have f1 := hts (.fieldLink RX2 9 "StaffHeads$Notes" "staff" "[I") (List.mem_of_getElem? (i := 2) rfl)
  have f2 := hts (.fieldLink RX2 15 "StaffHeads$Notes" "voice" "[I") (List.mem_of_getElem? (i := 3) rfl)
  have f3 := hts (.fieldLink RX2 18 "StaffHeads$Notes" "tick" "[I") (List.mem_of_getElem? (i := 4) rfl)
  have f4 := hts (.fieldLink RX2 21 "StaffHeads$Notes" "number" "[I") (List.mem_of_getElem? (i := 5) rfl)
  have f5 := hts (.fieldLink RX2 24 "StaffHeads$Notes" "sign" "[I") (List.mem_of_getElem? (i := 6) rfl)
  have f6 := hts (.fieldLink RX2 27 "StaffHeads$Notes" "head" "[I") (List.mem_of_getElem? (i := 7) rfl)
  refine lv_iload_n hx hb dX2_remove_0 rfl (lv_at hl 1 rfl) ?_
  refine x_tp (y := nI (j + 0)) rfl ?_
  refine lv_istore_n (lv' := [(2, .int (nI (j + 0))), (0, .ref (c 7)), (1, .int (nI j))]) hx hb dX2_remove_1 rfl hl (by decide) rfl (fun ls hl => ?_)
  refine lpW (G := fun ls H locs => W p _ e _ s mi _ below meth cd H locs _ _ _ (F0 mi 2 ls [])) 3 (n - 1 - j) (fun i (_ : Unit) => [(0, .ref (c 7)), (1, .int (nI j)), (2, .int (nI (j + i)))]) (fun i (_ : Unit) => noW c cA n (va_up (va_up (va_up (va_up (va_up (va_up a 7 (rDr (a 7) j i)) 8 (rDr (a 8) j i)) 9 (rDr (a 9) j i)) 10 (rDr (a 10) j i)) 11 (rDr (a 11) j i)) 12 (rDr (a 12) j i))) (fun _ _ => True) ?_ 0 () (Nat.zero_le _) trivial (lv_sub hl [1, 2, 0] rfl) hP hD hS
  clear hl hP hD hS
  intro i gu hi hiI ls H locs hl hP hD hS ihi
  refine lv_iload_n hx hb dX2_remove_2 rfl (lv_at hl 2 rfl) ?_
  refine lv_iconst (v := 1) hx hb dX2_remove_3 (by decide) ?_
  refine lv_iadd hx hb dX2_remove_4 ?_
  refine x_tp (y := nI (j + i + 1)) (nI_1 (j + i)) ?_
  refine lv_aload_n hx hb dX2_remove_5 rfl (lv_at hl 0 rfl) ?_
  refine va_get (D := D) (ci := 2) (v := .int (nI n)) (C := RX2) (T := TX2) (N := 7) hx hb hts hiX20 hown hK.1 hP 0 rfl rfl 6 (by decide) f0 (fun _ h9 => h9) rfl dX2_remove_6 ?_
  refine x_nge (tgt := 102) hx hb dX2_remove_9 (by decide) (by omega) (by omega) (fun c_9 => ?_) (fun c_9 => ?_)
  · obtain rfl : n - 1 - j = i := by omega
    refine lv_aload_n hx hb dX2_remove_102 rfl (lv_at hl 0 rfl) ?_
    refine lv_dup hx hb dX2_remove_103 rfl ?_
    refine va_get (D := D) (ci := 2) (v := .int (nI n)) (C := RX2) (T := TX2) (N := 7) hx hb hts hiX20 hown hK.1 hP 0 rfl rfl 6 (by decide) f0 (fun _ h9 => h9) rfl dX2_remove_104 ?_
    refine lv_iconst (v := 1) hx hb dX2_remove_107 (by decide) ?_
    refine lv_isub hx hb dX2_remove_108 ?_
    refine x_tp (y := nI (n - 1)) (x_sub1 (by omega)) ?_
    refine va_put (D := D) (ci := 2) (v := .int (nI (n - 1))) (ty := .int) (C := RX2) (T := TX2) (N := 7) hx hb hts hiX20 tyX2 tyX2_ok nmX2 hown hK.1 hP hD hS 0 rfl rfl 6 (by decide) f0 (fun _ h9 => h9) rfl (by decide +kernel) rfl rfl (Nat.le_of_ble_eq_true rfl) dX2_remove_109 (fun H locs hP hD hS => ?_)
    have hP : va_P D vwCl (noW c cA (n - 1) (va_up (va_up (va_up (va_up (va_up (va_up a 7 (rDr (a 7) j (n - 1 - j))) 8 (rDr (a 8) j (n - 1 - j))) 9 (rDr (a 9) j (n - 1 - j))) 10 (rDr (a 10) j (n - 1 - j))) 11 (rDr (a 11) j (n - 1 - j))) 12 (rDr (a 12) j (n - 1 - j)))) H := hP
    have hD : va_D (va_A (noW c cA n a) sz) (noW c cA (n - 1) (va_up (va_up (va_up (va_up (va_up (va_up a 7 (rDr (a 7) j (n - 1 - j))) 8 (rDr (a 8) j (n - 1 - j))) 9 (rDr (a 9) j (n - 1 - j))) 10 (rDr (a 10) j (n - 1 - j))) 11 (rDr (a 11) j (n - 1 - j))) 12 (rDr (a 12) j (n - 1 - j)))) := hD
    exact w_vret () hx hb hr hlk hP hD hS (trivial) dX2_remove_112
  · refine lv_aload_n hx hb dX2_remove_12 rfl (lv_at hl 0 rfl) ?_
    refine va_get (D := D) (ci := 2) (v := .ref (c 8)) (C := RX2) (T := TX2) (N := 7) hx hb hts hiX20 hown hK.1 hP 0 rfl rfl 0 (by decide) f1 (fun _ h9 => h9) rfl dX2_remove_13 ?_
    refine lv_iload_n hx hb dX2_remove_16 rfl (lv_at hl 2 rfl) ?_
    refine lv_aload_n hx hb dX2_remove_17 rfl (lv_at hl 0 rfl) ?_
    refine va_get (D := D) (ci := 2) (v := .ref (c 8)) (C := RX2) (T := TX2) (N := 7) hx hb hts hiX20 hown hK.1 hP 0 rfl rfl 0 (by decide) f1 (fun _ h9 => h9) rfl dX2_remove_18 ?_
    refine lv_iload_n hx hb dX2_remove_21 rfl (lv_at hl 2 rfl) ?_
    refine lv_iconst (v := 1) hx hb dX2_remove_22 (by decide) ?_
    refine lv_iadd hx hb dX2_remove_23 ?_
    refine x_tp (y := nI (j + i + 1)) (nI_1 (j + i)) ?_
    refine x_iald hx hb hK hP 1 0 rfl rfl (k := (j + i + 1)) (by omega) (by decide) dX2_remove_24 ?_
    refine x_iast hx hb hK hP hD hS 1 0 rfl rfl (k := (j + i)) (by omega) (by decide) dX2_remove_25 (fun H locs hP hD hS => ?_)
    have hP : va_P D vwCl (noW c cA n (va_up (va_up (va_up (va_up (va_up (va_up (va_up a 7 (rDr (a 7) j i)) 8 (rDr (a 8) j i)) 9 (rDr (a 9) j i)) 10 (rDr (a 10) j i)) 11 (rDr (a 11) j i)) 12 (rDr (a 12) j i)) 7 (upd (rDr (a 7) j i) (j + i) ((rDr (a 7) j i) (j + i + 1))))) H := hP
    have hD : va_D (va_A (noW c cA n a) sz) (noW c cA n (va_up (va_up (va_up (va_up (va_up (va_up (va_up a 7 (rDr (a 7) j i)) 8 (rDr (a 8) j i)) 9 (rDr (a 9) j i)) 10 (rDr (a 10) j i)) 11 (rDr (a 11) j i)) 12 (rDr (a 12) j i)) 7 (upd (rDr (a 7) j i) (j + i) ((rDr (a 7) j i) (j + i + 1))))) := hD
    refine lv_aload_n hx hb dX2_remove_26 rfl (lv_at hl 0 rfl) ?_
    refine va_get (D := D) (ci := 2) (v := .ref (c 9)) (C := RX2) (T := TX2) (N := 7) hx hb hts hiX20 hown hK.1 hP 0 rfl rfl 1 (by decide) f2 (fun _ h9 => h9) rfl dX2_remove_27 ?_
    refine lv_iload_n hx hb dX2_remove_30 rfl (lv_at hl 2 rfl) ?_
    refine lv_aload_n hx hb dX2_remove_31 rfl (lv_at hl 0 rfl) ?_
    refine va_get (D := D) (ci := 2) (v := .ref (c 9)) (C := RX2) (T := TX2) (N := 7) hx hb hts hiX20 hown hK.1 hP 0 rfl rfl 1 (by decide) f2 (fun _ h9 => h9) rfl dX2_remove_32 ?_
    refine lv_iload_n hx hb dX2_remove_35 rfl (lv_at hl 2 rfl) ?_
    refine lv_iconst (v := 1) hx hb dX2_remove_36 (by decide) ?_
    refine lv_iadd hx hb dX2_remove_37 ?_
    refine x_tp (y := nI (j + i + 1)) (nI_1 (j + i)) ?_
    refine x_iald hx hb hK hP 2 0 rfl rfl (k := (j + i + 1)) (by omega) (by decide) dX2_remove_38 ?_
    refine x_iast hx hb hK hP hD hS 2 0 rfl rfl (k := (j + i)) (by omega) (by decide) dX2_remove_39 (fun H locs hP hD hS => ?_)
    have hP : va_P D vwCl (noW c cA n (va_up (va_up (va_up (va_up (va_up (va_up (va_up (va_up a 7 (rDr (a 7) j i)) 8 (rDr (a 8) j i)) 9 (rDr (a 9) j i)) 10 (rDr (a 10) j i)) 11 (rDr (a 11) j i)) 12 (rDr (a 12) j i)) 7 (upd (rDr (a 7) j i) (j + i) ((rDr (a 7) j i) (j + i + 1)))) 8 (upd (rDr (a 8) j i) (j + i) ((rDr (a 8) j i) (j + i + 1))))) H := hP
    have hD : va_D (va_A (noW c cA n a) sz) (noW c cA n (va_up (va_up (va_up (va_up (va_up (va_up (va_up (va_up a 7 (rDr (a 7) j i)) 8 (rDr (a 8) j i)) 9 (rDr (a 9) j i)) 10 (rDr (a 10) j i)) 11 (rDr (a 11) j i)) 12 (rDr (a 12) j i)) 7 (upd (rDr (a 7) j i) (j + i) ((rDr (a 7) j i) (j + i + 1)))) 8 (upd (rDr (a 8) j i) (j + i) ((rDr (a 8) j i) (j + i + 1))))) := hD
    refine lv_aload_n hx hb dX2_remove_40 rfl (lv_at hl 0 rfl) ?_
    refine va_get (D := D) (ci := 2) (v := .ref (c 10)) (C := RX2) (T := TX2) (N := 7) hx hb hts hiX20 hown hK.1 hP 0 rfl rfl 2 (by decide) f3 (fun _ h9 => h9) rfl dX2_remove_41 ?_
    refine lv_iload_n hx hb dX2_remove_44 rfl (lv_at hl 2 rfl) ?_
    refine lv_aload_n hx hb dX2_remove_45 rfl (lv_at hl 0 rfl) ?_
    refine va_get (D := D) (ci := 2) (v := .ref (c 10)) (C := RX2) (T := TX2) (N := 7) hx hb hts hiX20 hown hK.1 hP 0 rfl rfl 2 (by decide) f3 (fun _ h9 => h9) rfl dX2_remove_46 ?_
    refine lv_iload_n hx hb dX2_remove_49 rfl (lv_at hl 2 rfl) ?_
    refine lv_iconst (v := 1) hx hb dX2_remove_50 (by decide) ?_
    refine lv_iadd hx hb dX2_remove_51 ?_
    refine x_tp (y := nI (j + i + 1)) (nI_1 (j + i)) ?_
    refine x_iald hx hb hK hP 3 0 rfl rfl (k := (j + i + 1)) (by omega) (by decide) dX2_remove_52 ?_
    refine x_iast hx hb hK hP hD hS 3 0 rfl rfl (k := (j + i)) (by omega) (by decide) dX2_remove_53 (fun H locs hP hD hS => ?_)
    have hP : va_P D vwCl (noW c cA n (va_up (va_up (va_up (va_up (va_up (va_up (va_up (va_up (va_up a 7 (rDr (a 7) j i)) 8 (rDr (a 8) j i)) 9 (rDr (a 9) j i)) 10 (rDr (a 10) j i)) 11 (rDr (a 11) j i)) 12 (rDr (a 12) j i)) 7 (upd (rDr (a 7) j i) (j + i) ((rDr (a 7) j i) (j + i + 1)))) 8 (upd (rDr (a 8) j i) (j + i) ((rDr (a 8) j i) (j + i + 1)))) 9 (upd (rDr (a 9) j i) (j + i) ((rDr (a 9) j i) (j + i + 1))))) H := hP
    have hD : va_D (va_A (noW c cA n a) sz) (noW c cA n (va_up (va_up (va_up (va_up (va_up (va_up (va_up (va_up (va_up a 7 (rDr (a 7) j i)) 8 (rDr (a 8) j i)) 9 (rDr (a 9) j i)) 10 (rDr (a 10) j i)) 11 (rDr (a 11) j i)) 12 (rDr (a 12) j i)) 7 (upd (rDr (a 7) j i) (j + i) ((rDr (a 7) j i) (j + i + 1)))) 8 (upd (rDr (a 8) j i) (j + i) ((rDr (a 8) j i) (j + i + 1)))) 9 (upd (rDr (a 9) j i) (j + i) ((rDr (a 9) j i) (j + i + 1))))) := hD
    refine lv_aload_n hx hb dX2_remove_54 rfl (lv_at hl 0 rfl) ?_
    refine va_get (D := D) (ci := 2) (v := .ref (c 11)) (C := RX2) (T := TX2) (N := 7) hx hb hts hiX20 hown hK.1 hP 0 rfl rfl 3 (by decide) f4 (fun _ h9 => h9) rfl dX2_remove_55 ?_
    refine lv_iload_n hx hb dX2_remove_58 rfl (lv_at hl 2 rfl) ?_
    refine lv_aload_n hx hb dX2_remove_59 rfl (lv_at hl 0 rfl) ?_
    refine va_get (D := D) (ci := 2) (v := .ref (c 11)) (C := RX2) (T := TX2) (N := 7) hx hb hts hiX20 hown hK.1 hP 0 rfl rfl 3 (by decide) f4 (fun _ h9 => h9) rfl dX2_remove_60 ?_
    refine lv_iload_n hx hb dX2_remove_63 rfl (lv_at hl 2 rfl) ?_
    refine lv_iconst (v := 1) hx hb dX2_remove_64 (by decide) ?_
    refine lv_iadd hx hb dX2_remove_65 ?_
    refine x_tp (y := nI (j + i + 1)) (nI_1 (j + i)) ?_
    refine x_iald hx hb hK hP 4 0 rfl rfl (k := (j + i + 1)) (by omega) (by decide) dX2_remove_66 ?_
    refine x_iast hx hb hK hP hD hS 4 0 rfl rfl (k := (j + i)) (by omega) (by decide) dX2_remove_67 (fun H locs hP hD hS => ?_)
    have hP : va_P D vwCl (noW c cA n (va_up (va_up (va_up (va_up (va_up (va_up (va_up (va_up (va_up (va_up a 7 (rDr (a 7) j i)) 8 (rDr (a 8) j i)) 9 (rDr (a 9) j i)) 10 (rDr (a 10) j i)) 11 (rDr (a 11) j i)) 12 (rDr (a 12) j i)) 7 (upd (rDr (a 7) j i) (j + i) ((rDr (a 7) j i) (j + i + 1)))) 8 (upd (rDr (a 8) j i) (j + i) ((rDr (a 8) j i) (j + i + 1)))) 9 (upd (rDr (a 9) j i) (j + i) ((rDr (a 9) j i) (j + i + 1)))) 10 (upd (rDr (a 10) j i) (j + i) ((rDr (a 10) j i) (j + i + 1))))) H := hP
    have hD : va_D (va_A (noW c cA n a) sz) (noW c cA n (va_up (va_up (va_up (va_up (va_up (va_up (va_up (va_up (va_up (va_up a 7 (rDr (a 7) j i)) 8 (rDr (a 8) j i)) 9 (rDr (a 9) j i)) 10 (rDr (a 10) j i)) 11 (rDr (a 11) j i)) 12 (rDr (a 12) j i)) 7 (upd (rDr (a 7) j i) (j + i) ((rDr (a 7) j i) (j + i + 1)))) 8 (upd (rDr (a 8) j i) (j + i) ((rDr (a 8) j i) (j + i + 1)))) 9 (upd (rDr (a 9) j i) (j + i) ((rDr (a 9) j i) (j + i + 1)))) 10 (upd (rDr (a 10) j i) (j + i) ((rDr (a 10) j i) (j + i + 1))))) := hD
    refine lv_aload_n hx hb dX2_remove_68 rfl (lv_at hl 0 rfl) ?_
    refine va_get (D := D) (ci := 2) (v := .ref (c 12)) (C := RX2) (T := TX2) (N := 7) hx hb hts hiX20 hown hK.1 hP 0 rfl rfl 4 (by decide) f5 (fun _ h9 => h9) rfl dX2_remove_69 ?_
    refine lv_iload_n hx hb dX2_remove_72 rfl (lv_at hl 2 rfl) ?_
    refine lv_aload_n hx hb dX2_remove_73 rfl (lv_at hl 0 rfl) ?_
    refine va_get (D := D) (ci := 2) (v := .ref (c 12)) (C := RX2) (T := TX2) (N := 7) hx hb hts hiX20 hown hK.1 hP 0 rfl rfl 4 (by decide) f5 (fun _ h9 => h9) rfl dX2_remove_74 ?_
    refine lv_iload_n hx hb dX2_remove_77 rfl (lv_at hl 2 rfl) ?_
    refine lv_iconst (v := 1) hx hb dX2_remove_78 (by decide) ?_
    refine lv_iadd hx hb dX2_remove_79 ?_
    refine x_tp (y := nI (j + i + 1)) (nI_1 (j + i)) ?_
    refine x_iald hx hb hK hP 5 0 rfl rfl (k := (j + i + 1)) (by omega) (by decide) dX2_remove_80 ?_
    refine x_iast hx hb hK hP hD hS 5 0 rfl rfl (k := (j + i)) (by omega) (by decide) dX2_remove_81 (fun H locs hP hD hS => ?_)
    have hP : va_P D vwCl (noW c cA n (va_up (va_up (va_up (va_up (va_up (va_up (va_up (va_up (va_up (va_up (va_up a 7 (rDr (a 7) j i)) 8 (rDr (a 8) j i)) 9 (rDr (a 9) j i)) 10 (rDr (a 10) j i)) 11 (rDr (a 11) j i)) 12 (rDr (a 12) j i)) 7 (upd (rDr (a 7) j i) (j + i) ((rDr (a 7) j i) (j + i + 1)))) 8 (upd (rDr (a 8) j i) (j + i) ((rDr (a 8) j i) (j + i + 1)))) 9 (upd (rDr (a 9) j i) (j + i) ((rDr (a 9) j i) (j + i + 1)))) 10 (upd (rDr (a 10) j i) (j + i) ((rDr (a 10) j i) (j + i + 1)))) 11 (upd (rDr (a 11) j i) (j + i) ((rDr (a 11) j i) (j + i + 1))))) H := hP
    have hD : va_D (va_A (noW c cA n a) sz) (noW c cA n (va_up (va_up (va_up (va_up (va_up (va_up (va_up (va_up (va_up (va_up (va_up a 7 (rDr (a 7) j i)) 8 (rDr (a 8) j i)) 9 (rDr (a 9) j i)) 10 (rDr (a 10) j i)) 11 (rDr (a 11) j i)) 12 (rDr (a 12) j i)) 7 (upd (rDr (a 7) j i) (j + i) ((rDr (a 7) j i) (j + i + 1)))) 8 (upd (rDr (a 8) j i) (j + i) ((rDr (a 8) j i) (j + i + 1)))) 9 (upd (rDr (a 9) j i) (j + i) ((rDr (a 9) j i) (j + i + 1)))) 10 (upd (rDr (a 10) j i) (j + i) ((rDr (a 10) j i) (j + i + 1)))) 11 (upd (rDr (a 11) j i) (j + i) ((rDr (a 11) j i) (j + i + 1))))) := hD
    refine lv_aload_n hx hb dX2_remove_82 rfl (lv_at hl 0 rfl) ?_
    refine va_get (D := D) (ci := 2) (v := .ref (c 13)) (C := RX2) (T := TX2) (N := 7) hx hb hts hiX20 hown hK.1 hP 0 rfl rfl 5 (by decide) f6 (fun _ h9 => h9) rfl dX2_remove_83 ?_
    refine lv_iload_n hx hb dX2_remove_86 rfl (lv_at hl 2 rfl) ?_
    refine lv_aload_n hx hb dX2_remove_87 rfl (lv_at hl 0 rfl) ?_
    refine va_get (D := D) (ci := 2) (v := .ref (c 13)) (C := RX2) (T := TX2) (N := 7) hx hb hts hiX20 hown hK.1 hP 0 rfl rfl 5 (by decide) f6 (fun _ h9 => h9) rfl dX2_remove_88 ?_
    refine lv_iload_n hx hb dX2_remove_91 rfl (lv_at hl 2 rfl) ?_
    refine lv_iconst (v := 1) hx hb dX2_remove_92 (by decide) ?_
    refine lv_iadd hx hb dX2_remove_93 ?_
    refine x_tp (y := nI (j + i + 1)) (nI_1 (j + i)) ?_
    refine x_iald hx hb hK hP 6 0 rfl rfl (k := (j + i + 1)) (by omega) (by decide) dX2_remove_94 ?_
    refine x_iast hx hb hK hP hD hS 6 0 rfl rfl (k := (j + i)) (by omega) (by decide) dX2_remove_95 (fun H locs hP hD hS => ?_)
    have hP : va_P D vwCl (noW c cA n (va_up (va_up (va_up (va_up (va_up (va_up (va_up (va_up (va_up (va_up (va_up (va_up a 7 (rDr (a 7) j i)) 8 (rDr (a 8) j i)) 9 (rDr (a 9) j i)) 10 (rDr (a 10) j i)) 11 (rDr (a 11) j i)) 12 (rDr (a 12) j i)) 7 (upd (rDr (a 7) j i) (j + i) ((rDr (a 7) j i) (j + i + 1)))) 8 (upd (rDr (a 8) j i) (j + i) ((rDr (a 8) j i) (j + i + 1)))) 9 (upd (rDr (a 9) j i) (j + i) ((rDr (a 9) j i) (j + i + 1)))) 10 (upd (rDr (a 10) j i) (j + i) ((rDr (a 10) j i) (j + i + 1)))) 11 (upd (rDr (a 11) j i) (j + i) ((rDr (a 11) j i) (j + i + 1)))) 12 (upd (rDr (a 12) j i) (j + i) ((rDr (a 12) j i) (j + i + 1))))) H := hP
    have hD : va_D (va_A (noW c cA n a) sz) (noW c cA n (va_up (va_up (va_up (va_up (va_up (va_up (va_up (va_up (va_up (va_up (va_up (va_up a 7 (rDr (a 7) j i)) 8 (rDr (a 8) j i)) 9 (rDr (a 9) j i)) 10 (rDr (a 10) j i)) 11 (rDr (a 11) j i)) 12 (rDr (a 12) j i)) 7 (upd (rDr (a 7) j i) (j + i) ((rDr (a 7) j i) (j + i + 1)))) 8 (upd (rDr (a 8) j i) (j + i) ((rDr (a 8) j i) (j + i + 1)))) 9 (upd (rDr (a 9) j i) (j + i) ((rDr (a 9) j i) (j + i + 1)))) 10 (upd (rDr (a 10) j i) (j + i) ((rDr (a 10) j i) (j + i + 1)))) 11 (upd (rDr (a 11) j i) (j + i) ((rDr (a 11) j i) (j + i + 1)))) 12 (upd (rDr (a 12) j i) (j + i) ((rDr (a 12) j i) (j + i + 1))))) := hD
    have hP : va_P D vwCl (noW c cA n (va_up (va_up (va_up (va_up (va_up (va_up a 7 (rDr (a 7) j (i + 1))) 8 (rDr (a 8) j (i + 1))) 9 (rDr (a 9) j (i + 1))) 10 (rDr (a 10) j (i + 1))) 11 (rDr (a 11) j (i + 1))) 12 (rDr (a 12) j (i + 1)))) H := hP
    have hD : va_D (va_A (noW c cA n a) sz) (noW c cA n (va_up (va_up (va_up (va_up (va_up (va_up a 7 (rDr (a 7) j (i + 1))) 8 (rDr (a 8) j (i + 1))) 9 (rDr (a 9) j (i + 1))) 10 (rDr (a 10) j (i + 1))) 11 (rDr (a 11) j (i + 1))) 12 (rDr (a 12) j (i + 1)))) := hD
    refine lv_iinc (v := nI (j + i + 1)) (lv' := [(2, .int (nI (j + i + 1))), (0, .ref (c 7)), (1, .int (nI j))]) hx hb dX2_remove_96 hl (k := 2) rfl (x_inc (j + i)) (by decide) rfl (fun ls hl => ?_)
    refine lv_goto (tgt := 2) hx hb dX2_remove_99 (by decide) ?_
    exact ihi (by omega) () _ _ _ trivial (lv_sub hl [1, 2, 0] rfl) hP hD hS
