set_option maxHeartbeats 4000000 in
set_option maxRecDepth 100000 in
theorem k0_clear (l : Launch) (D : va_G) (cA : ClassId) (q0 q1 z : Nat) (lw hg : Int32) (O U : Prop) (mv : Nat) (M : Nat → Nat) (sz : Nat) : Met l yX0_clear wsX0_clear ({ frames := 0, cells := 0, slots := 0, locals := 0 }) (wPc D (kW q0 q1 cA z lw hg O U mv M) [(cA, .int)] sz [.ref q0]) (va_Qv (fun _ : Unit => True) (wB D (kW q0 q1 cA z lw hg O U mv M) sz (fun _ => kW q0 q1 cA 0 lw hg True U 0 M)) (va_A (kW q0 q1 cA z lw hg O U mv M) sz)) 0 0 (va_A (kW q0 q1 cA z lw hg O U mv M) sz) := by
  refine w_head (C := RX0) (cc := cX0_clear) (maxL := 1) (ret := none) [(0, .ref q0)] (by decide) rfl rfl (Nat.le_of_ble_eq_true rfl) rfl ?_
  intro p e s mi below meth cd hx hb hr hlk hml hown hin hts hP hD hS hA hK ls hl
  have hiX00 : ∀ w ∈ wsX00, w ∈ wsX0_clear := fun w h => List.mem_cons_of_mem _ (List.mem_append_right _ h)
  have f0 := hts (.fieldLink RX0 15 "StaffHeads$Chord" "size" "I") (List.mem_of_getElem? (i := 1) rfl)
  have f1 := hts (.fieldLink RX0 19 "StaffHeads$Chord" "onlyWhole" "Z") (List.mem_of_getElem? (i := 2) rfl)
  have f2 := hts (.fieldLink RX0 23 "StaffHeads$Chord" "moved" "I") (List.mem_of_getElem? (i := 3) rfl)
  refine lv_aload_n hx hb dX0_clear_0 rfl (lv_at hl 0 rfl) ?_
  refine lv_iconst (v := 0) hx hb dX0_clear_1 (by decide) ?_
  refine x_tp (y := nI 0) nI_0.symm ?_
  refine va_put (D := D) (ci := 0) (v := .int (nI 0)) (ty := .int) (C := RX0) (T := TX0) (N := 7) hx hb hts hiX00 tyX0 tyX0_ok nmX0 hown hK.1 hP hD hS 0 rfl rfl 1 (by decide) f0 (fun _ h9 => h9) rfl (by decide +kernel) rfl rfl (Nat.le_of_ble_eq_true rfl) dX0_clear_2 (fun H locs hP hD hS => ?_)
  have hP : va_P D vwCl (kW q0 q1 cA 0 lw hg O U mv M) H := hP
  have hD : va_D (va_A (kW q0 q1 cA z lw hg O U mv M) sz) (kW q0 q1 cA 0 lw hg O U mv M) := hD
  refine lv_aload_n hx hb dX0_clear_5 rfl (lv_at hl 0 rfl) ?_
  refine lv_iconst (v := 1) hx hb dX0_clear_6 (by decide) ?_
  refine x_tp (y := bv True) (bv_t trivial).symm ?_
  refine va_put (D := D) (ci := 0) (v := .int (bv True)) (ty := .boolean) (C := RX0) (T := TX0) (N := 7) hx hb hts hiX00 tyX0 tyX0_ok nmX0 hown hK.1 hP hD hS 0 rfl rfl 4 (by decide) f1 (fun _ h9 => h9) rfl (by decide +kernel) bv_nar bv_fits (Nat.le_of_ble_eq_true rfl) dX0_clear_7 (fun H locs hP hD hS => ?_)
  have hP : va_P D vwCl (kW q0 q1 cA 0 lw hg True U mv M) H := hP
  have hD : va_D (va_A (kW q0 q1 cA z lw hg O U mv M) sz) (kW q0 q1 cA 0 lw hg True U mv M) := hD
  refine lv_aload_n hx hb dX0_clear_10 rfl (lv_at hl 0 rfl) ?_
  refine lv_iconst (v := 0) hx hb dX0_clear_11 (by decide) ?_
  refine x_tp (y := nI 0) nI_0.symm ?_
  refine va_put (D := D) (ci := 0) (v := .int (nI 0)) (ty := .int) (C := RX0) (T := TX0) (N := 7) hx hb hts hiX00 tyX0 tyX0_ok nmX0 hown hK.1 hP hD hS 0 rfl rfl 6 (by decide) f2 (fun _ h9 => h9) rfl (by decide +kernel) rfl rfl (Nat.le_of_ble_eq_true rfl) dX0_clear_12 (fun H locs hP hD hS => ?_)
  have hP : va_P D vwCl (kW q0 q1 cA 0 lw hg True U 0 M) H := hP
  have hD : va_D (va_A (kW q0 q1 cA z lw hg O U mv M) sz) (kW q0 q1 cA 0 lw hg True U 0 M) := hD
  exact w_vret () hx hb hr hlk hP hD hS (trivial) dX0_clear_15

set_option maxHeartbeats 4000000 in
set_option maxRecDepth 100000 in
theorem k0_add (l : Launch) (D : va_G) (cA : ClassId) (q0 q1 z : Nat) (lw hg : Int32) (O U : Prop) (mv : Nat) (M : Nat → Nat) (sz : Nat) (x : Nat) (p2 p3 : Int32) (hz : z < 60) : Met l yX0_add wsX0_add ({ frames := 1, cells := 0, slots := 0, locals := 21 }) (wPc D (kW q0 q1 cA z lw hg O U mv M) [(cA, .int)] sz [.ref q0, .int (nI x), .int p2, .int p3]) (va_Qv (fun _ : Unit => True) (wB D (kW q0 q1 cA z lw hg O U mv M) sz (fun _ => kW q0 q1 cA (z + 1) (if z = 0 then p2 else mnI lw p2) (if z = 0 then p2 else mxI hg p2) (O ∧ p3 = 0) U mv (va_up M z x))) (va_A (kW q0 q1 cA z lw hg O U mv M) sz)) 0 0 (va_A (kW q0 q1 cA z lw hg O U mv M) sz) := by
  refine w_head (C := RX0) (cc := cX0_add) (maxL := 4) (ret := none) [(0, .ref q0), (1, .int (nI x)), (2, .int p2), (3, .int p3)] (by decide) rfl rfl (Nat.le_of_ble_eq_true rfl) rfl ?_
  intro p e s mi below meth cd hx hb hr hlk hml hown hin hts hP hD hS hA hK ls hl
  have hiX00 : ∀ w ∈ wsX00, w ∈ wsX0_add := fun w h => List.mem_cons_of_mem _ (List.mem_append_right _ h)
  have f0 := hts (.fieldLink RX0 26 "StaffHeads$Chord" "lowest" "I") (List.mem_of_getElem? (i := 2) rfl)
  have f1 := hts (.fieldLink RX0 35 "StaffHeads$Chord" "highest" "I") (List.mem_of_getElem? (i := 7) rfl)
  have f2 := hts (.fieldLink RX0 19 "StaffHeads$Chord" "onlyWhole" "Z") (List.mem_of_getElem? (i := 11) rfl)
  have f3 := hts (.fieldLink RX0 9 "StaffHeads$Chord" "heads" "[I") (List.mem_of_getElem? (i := 12) rfl)
  have f4 := hts (.fieldLink RX0 15 "StaffHeads$Chord" "size" "I") (List.mem_of_getElem? (i := 1) rfl)
  have f5 := hts (.methodLink RX0 38 Lib.Math.max.name) (List.mem_of_getElem? (i := 8) rfl)
  have f6 := hts (.static Lib.Math.max.name) (List.mem_of_getElem? (i := 9) rfl)
  have f7 := hts (.initialized "java/lang/Math") (List.mem_of_getElem? (i := 5) rfl)
  have f8 := hts (.code Lib.Math.max.name Lib.Math.max.code 2 (some .int)) (List.mem_of_getElem? (i := 10) rfl)
  have f9 := hts (.methodLink RX0 29 Lib.Math.min.name) (List.mem_of_getElem? (i := 3) rfl)
  have f10 := hts (.static Lib.Math.min.name) (List.mem_of_getElem? (i := 4) rfl)
  have f11 := hts (.code Lib.Math.min.name Lib.Math.min.code 2 (some .int)) (List.mem_of_getElem? (i := 6) rfl)
  refine lv_aload_n hx hb dX0_add_0 rfl (lv_at hl 0 rfl) ?_
  refine x_joinW (D := D) (A := (va_A (kW q0 q1 cA z lw hg O U mv M) sz)) (H0 := s.heap) 4 [(0, .ref q0), (1, .int (nI x)), (2, .int p2), (3, .int p3)] (kW q0 q1 cA z lw hg O U mv M) 20 [.int (if z = 0 then p2 else mnI lw p2), .ref q0] ?_ (fun j_20 => ?_)
  · intro ls H locs hl hP hD hS
    refine va_put (D := D) (ci := 0) (v := .int (if z = 0 then p2 else mnI lw p2)) (ty := .int) (C := RX0) (T := TX0) (N := 7) hx hb hts hiX00 tyX0 tyX0_ok nmX0 hown hK.1 hP hD hS 0 rfl rfl 2 (by decide) f0 (fun _ h9 => h9) rfl (by decide +kernel) rfl rfl (Nat.le_of_ble_eq_true rfl) dX0_add_20 (fun H locs hP hD hS => ?_)
    have hP : va_P D vwCl (kW q0 q1 cA z (if z = 0 then p2 else mnI lw p2) hg O U mv M) H := hP
    have hD : va_D (va_A (kW q0 q1 cA z lw hg O U mv M) sz) (kW q0 q1 cA z (if z = 0 then p2 else mnI lw p2) hg O U mv M) := hD
    refine lv_aload_n hx hb dX0_add_23 rfl (lv_at hl 0 rfl) ?_
    refine x_joinW (D := D) (A := (va_A (kW q0 q1 cA z lw hg O U mv M) sz)) (H0 := s.heap) 4 [(0, .ref q0), (1, .int (nI x)), (2, .int p2), (3, .int p3)] (kW q0 q1 cA z (if z = 0 then p2 else mnI lw p2) hg O U mv M) 43 [.int (if z = 0 then p2 else mxI hg p2), .ref q0] ?_ (fun j_43 => ?_)
    · intro ls H locs hl hP hD hS
      refine va_put (D := D) (ci := 0) (v := .int (if z = 0 then p2 else mxI hg p2)) (ty := .int) (C := RX0) (T := TX0) (N := 7) hx hb hts hiX00 tyX0 tyX0_ok nmX0 hown hK.1 hP hD hS 0 rfl rfl 3 (by decide) f1 (fun _ h9 => h9) rfl (by decide +kernel) rfl rfl (Nat.le_of_ble_eq_true rfl) dX0_add_43 (fun H locs hP hD hS => ?_)
      have hP : va_P D vwCl (kW q0 q1 cA z (if z = 0 then p2 else mnI lw p2) (if z = 0 then p2 else mxI hg p2) O U mv M) H := hP
      have hD : va_D (va_A (kW q0 q1 cA z lw hg O U mv M) sz) (kW q0 q1 cA z (if z = 0 then p2 else mnI lw p2) (if z = 0 then p2 else mxI hg p2) O U mv M) := hD
      refine lv_aload_n hx hb dX0_add_46 rfl (lv_at hl 0 rfl) ?_
      refine x_joinW (D := D) (A := (va_A (kW q0 q1 cA z lw hg O U mv M) sz)) (H0 := s.heap) 4 [(0, .ref q0), (1, .int (nI x)), (2, .int p2), (3, .int p3)] (kW q0 q1 cA z (if z = 0 then p2 else mnI lw p2) (if z = 0 then p2 else mxI hg p2) O U mv M) 63 [.int (bv (O ∧ p3 = 0)), .ref q0] ?_ (fun j_63 => ?_)
      · intro ls H locs hl hP hD hS
        refine va_put (D := D) (ci := 0) (v := .int (bv (O ∧ p3 = 0))) (ty := .boolean) (C := RX0) (T := TX0) (N := 7) hx hb hts hiX00 tyX0 tyX0_ok nmX0 hown hK.1 hP hD hS 0 rfl rfl 4 (by decide) f2 (fun _ h9 => h9) rfl (by decide +kernel) bv_nar bv_fits (Nat.le_of_ble_eq_true rfl) dX0_add_63 (fun H locs hP hD hS => ?_)
        have hP : va_P D vwCl (kW q0 q1 cA z (if z = 0 then p2 else mnI lw p2) (if z = 0 then p2 else mxI hg p2) (O ∧ p3 = 0) U mv M) H := hP
        have hD : va_D (va_A (kW q0 q1 cA z lw hg O U mv M) sz) (kW q0 q1 cA z (if z = 0 then p2 else mnI lw p2) (if z = 0 then p2 else mxI hg p2) (O ∧ p3 = 0) U mv M) := hD
        refine lv_aload_n hx hb dX0_add_66 rfl (lv_at hl 0 rfl) ?_
        refine va_get (D := D) (ci := 0) (v := .ref q1) (C := RX0) (T := TX0) (N := 7) hx hb hts hiX00 hown hK.1 hP 0 rfl rfl 0 (by decide) f3 (fun _ h9 => h9) rfl dX0_add_67 ?_
        refine lv_aload_n hx hb dX0_add_70 rfl (lv_at hl 0 rfl) ?_
        refine va_get (D := D) (ci := 0) (v := .int (nI z)) (C := RX0) (T := TX0) (N := 7) hx hb hts hiX00 hown hK.1 hP 0 rfl rfl 1 (by decide) f4 (fun _ h9 => h9) rfl dX0_add_71 ?_
        refine lv_iload_n hx hb dX0_add_74 rfl (lv_at hl 1 rfl) ?_
        refine x_iastN hx hb hK hP hD hS 1 0 rfl rfl (k := z) (by omega) (by decide) dX0_add_75 (fun H locs hP hD hS => ?_)
        have hP : va_P D vwCl (kW q0 q1 cA z (if z = 0 then p2 else mnI lw p2) (if z = 0 then p2 else mxI hg p2) (O ∧ p3 = 0) U mv (va_up M z x)) H := hP
        have hD : va_D (va_A (kW q0 q1 cA z lw hg O U mv M) sz) (kW q0 q1 cA z (if z = 0 then p2 else mnI lw p2) (if z = 0 then p2 else mxI hg p2) (O ∧ p3 = 0) U mv (va_up M z x)) := hD
        refine lv_aload_n hx hb dX0_add_76 rfl (lv_at hl 0 rfl) ?_
        refine lv_dup hx hb dX0_add_77 rfl ?_
        refine va_get (D := D) (ci := 0) (v := .int (nI z)) (C := RX0) (T := TX0) (N := 7) hx hb hts hiX00 hown hK.1 hP 0 rfl rfl 1 (by decide) f4 (fun _ h9 => h9) rfl dX0_add_78 ?_
        refine lv_iconst (v := 1) hx hb dX0_add_81 (by decide) ?_
        refine lv_iadd hx hb dX0_add_82 ?_
        refine x_tp (y := nI (z + 1)) (nI_1 z) ?_
        refine va_put (D := D) (ci := 0) (v := .int (nI (z + 1))) (ty := .int) (C := RX0) (T := TX0) (N := 7) hx hb hts hiX00 tyX0 tyX0_ok nmX0 hown hK.1 hP hD hS 0 rfl rfl 1 (by decide) f4 (fun _ h9 => h9) rfl (by decide +kernel) rfl rfl (Nat.le_of_ble_eq_true rfl) dX0_add_83 (fun H locs hP hD hS => ?_)
        have hP : va_P D vwCl (kW q0 q1 cA (z + 1) (if z = 0 then p2 else mnI lw p2) (if z = 0 then p2 else mxI hg p2) (O ∧ p3 = 0) U mv (va_up M z x)) H := hP
        have hD : va_D (va_A (kW q0 q1 cA z lw hg O U mv M) sz) (kW q0 q1 cA (z + 1) (if z = 0 then p2 else mnI lw p2) (if z = 0 then p2 else mxI hg p2) (O ∧ p3 = 0) U mv (va_up M z x)) := hD
        exact w_vret () hx hb hr hlk hP hD hS (trivial) dX0_add_86
      refine lv_aload_n hx hb dX0_add_47 rfl (lv_at hl 0 rfl) ?_
      refine va_get (D := D) (ci := 0) (v := .int (bv O)) (C := RX0) (T := TX0) (N := 7) hx hb hts hiX00 hown hK.1 hP 0 rfl rfl 4 (by decide) f2 (fun _ h9 => h9) rfl dX0_add_48 ?_
      refine x_ifeq (tgt := 62) hx hb dX0_add_51 (by decide) (fun (c_51 : ¬ (O)) => ?_) (fun (c_51 : O) => ?_)
      · refine lv_iconst (v := 0) hx hb dX0_add_62 (by decide) ?_
        refine x_tp (y := bv (O ∧ p3 = 0)) (bv_f (fun h => c_51 h.1)).symm ?_
        exact j_63 _ _ _ (lv_sub hl [0, 1, 2, 3] rfl) hP hD hS
      · refine lv_iload_n hx hb dX0_add_54 rfl (lv_at hl 3 rfl) ?_
        refine lv_if_ne (tgt := 62) hx hb dX0_add_55 (by decide) (fun c_55 => ?_) (fun c_55 => ?_)
        · refine lv_iconst (v := 0) hx hb dX0_add_62 (by decide) ?_
          refine x_tp (y := bv (O ∧ p3 = 0)) (bv_f (fun h => c_55 h.2)).symm ?_
          exact j_63 _ _ _ (lv_sub hl [0, 1, 2, 3] rfl) hP hD hS
        · refine lv_iconst (v := 1) hx hb dX0_add_58 (by decide) ?_
          refine lv_goto (tgt := 63) hx hb dX0_add_59 (by decide) ?_
          refine x_tp (y := bv (O ∧ p3 = 0)) (bv_t ⟨c_51, c_55⟩).symm ?_
          exact j_63 _ _ _ (lv_sub hl [0, 1, 2, 3] rfl) hP hD hS
    refine lv_aload_n hx hb dX0_add_24 rfl (lv_at hl 0 rfl) ?_
    refine va_get (D := D) (ci := 0) (v := .int (nI z)) (C := RX0) (T := TX0) (N := 7) hx hb hts hiX00 hown hK.1 hP 0 rfl rfl 1 (by decide) f4 (fun _ h9 => h9) rfl dX0_add_25 ?_
    refine lv_if_ne (tgt := 35) hx hb dX0_add_28 (by decide) (fun c_28 => ?_) (fun c_28 => ?_)
    · have c_28 : ¬ z = 0 := fun h => c_28 (by rw [h]; rfl)
      refine lv_aload_n hx hb dX0_add_35 rfl (lv_at hl 0 rfl) ?_
      refine va_get (D := D) (ci := 0) (v := .int hg) (C := RX0) (T := TX0) (N := 7) hx hb hts hiX00 hown hK.1 hP 0 rfl rfl 3 (by decide) f1 (fun _ h9 => h9) rfl dX0_add_36 ?_
      refine lv_iload_n hx hb dX0_add_39 rfl (lv_at hl 2 rfl) ?_
      refine va_mmax hx hb (hml.trans hl.1.symm) hown f5 f6 f7 f8 (Nat.le_of_ble_eq_true rfl) (Nat.le_of_ble_eq_true rfl) (Nat.zero_le _) (Nat.zero_le _) dX0_add_40 ?_
      refine x_tp (y := if z = 0 then p2 else mxI hg p2) (by rw [if_neg c_28] <;> rfl) ?_
      exact j_43 _ _ _ (lv_sub hl [0, 1, 2, 3] rfl) hP hD hS
    · have c_28 : z = 0 := (nI_eq (b := 0) (by omega) (by decide)).mp c_28
      refine lv_iload_n hx hb dX0_add_31 rfl (lv_at hl 2 rfl) ?_
      refine lv_goto (tgt := 43) hx hb dX0_add_32 (by decide) ?_
      refine x_tp (y := if z = 0 then p2 else mxI hg p2) (by rw [if_pos c_28]) ?_
      exact j_43 _ _ _ (lv_sub hl [0, 1, 2, 3] rfl) hP hD hS
  refine lv_aload_n hx hb dX0_add_1 rfl (lv_at hl 0 rfl) ?_
  refine va_get (D := D) (ci := 0) (v := .int (nI z)) (C := RX0) (T := TX0) (N := 7) hx hb hts hiX00 hown hK.1 hP 0 rfl rfl 1 (by decide) f4 (fun _ h9 => h9) rfl dX0_add_2 ?_
  refine lv_if_ne (tgt := 12) hx hb dX0_add_5 (by decide) (fun c_5 => ?_) (fun c_5 => ?_)
  · have c_5 : ¬ z = 0 := fun h => c_5 (by rw [h]; rfl)
    refine lv_aload_n hx hb dX0_add_12 rfl (lv_at hl 0 rfl) ?_
    refine va_get (D := D) (ci := 0) (v := .int lw) (C := RX0) (T := TX0) (N := 7) hx hb hts hiX00 hown hK.1 hP 0 rfl rfl 2 (by decide) f0 (fun _ h9 => h9) rfl dX0_add_13 ?_
    refine lv_iload_n hx hb dX0_add_16 rfl (lv_at hl 2 rfl) ?_
    refine va_mmin hx hb (hml.trans hl.1.symm) hown f9 f10 f7 f11 (Nat.le_of_ble_eq_true rfl) (Nat.le_of_ble_eq_true rfl) (Nat.zero_le _) (Nat.zero_le _) dX0_add_17 ?_
    refine x_tp (y := if z = 0 then p2 else mnI lw p2) (by rw [if_neg c_5] <;> rfl) ?_
    exact j_20 _ _ _ (lv_sub hl [0, 1, 2, 3] rfl) hP hD hS
  · have c_5 : z = 0 := (nI_eq (b := 0) (by omega) (by decide)).mp c_5
    refine lv_iload_n hx hb dX0_add_8 rfl (lv_at hl 2 rfl) ?_
    refine lv_goto (tgt := 20) hx hb dX0_add_9 (by decide) ?_
    refine x_tp (y := if z = 0 then p2 else mnI lw p2) (by rw [if_pos c_5]) ?_
    exact j_20 _ _ _ (lv_sub hl [0, 1, 2, 3] rfl) hP hD hS

set_option maxHeartbeats 4000000 in
set_option maxRecDepth 100000 in
theorem k0_liesLow (l : Launch) (D : va_G) (cA : ClassId) (q0 q1 z : Nat) (lw hg : Int32) (O U : Prop) (mv : Nat) (M : Nat → Nat) : Met l yX0_liesLow wsX0_liesLow ({ frames := 0, cells := 0, slots := 0, locals := 0 }) (rPc D (kW q0 q1 cA z lw hg O U mv M) [(cA, .int)] [.ref q0]) (vp_Si (fun r => r = bv (hg - 4 < 4 - lw))) 0 0 (fun _ => False) := by
  refine r_head (C := RX0) (cc := cX0_liesLow) (maxL := 1) (ret := (some .boolean)) [(0, .ref q0)] (by decide) rfl rfl (Nat.le_of_ble_eq_true rfl) rfl ?_
  intro p e s mi below meth cd hx hb hr hlk hml hown hts hP hK ls hl
  have hiX00 : ∀ w ∈ wsX00, w ∈ wsX0_liesLow := fun w h => List.mem_cons_of_mem _ (List.mem_append_right _ h)
  have f0 := hts (.fieldLink RX0 35 "StaffHeads$Chord" "highest" "I") (List.mem_of_getElem? (i := 1) rfl)
  have f1 := hts (.fieldLink RX0 26 "StaffHeads$Chord" "lowest" "I") (List.mem_of_getElem? (i := 2) rfl)
  refine lv_aload_n hx hb dX0_liesLow_0 rfl (lv_at hl 0 rfl) ?_
  refine va_get (D := D) (ci := 0) (v := .int hg) (C := RX0) (T := TX0) (N := 7) hx hb hts hiX00 hown hK.1 hP 0 rfl rfl 3 (by decide) f0 (fun _ h9 => h9) rfl dX0_liesLow_1 ?_
  refine lv_iconst (v := 4) hx hb dX0_liesLow_4 (by decide) ?_
  refine lv_isub hx hb dX0_liesLow_5 ?_
  refine lv_iconst (v := 4) hx hb dX0_liesLow_6 (by decide) ?_
  refine lv_aload_n hx hb dX0_liesLow_7 rfl (lv_at hl 0 rfl) ?_
  refine va_get (D := D) (ci := 0) (v := .int lw) (C := RX0) (T := TX0) (N := 7) hx hb hts hiX00 hown hK.1 hP 0 rfl rfl 2 (by decide) f1 (fun _ h9 => h9) rfl dX0_liesLow_8 ?_
  refine lv_isub hx hb dX0_liesLow_11 ?_
  refine x_ige (tgt := 19) hx hb dX0_liesLow_12 (by decide) (fun c_12 => ?_) (fun c_12 => ?_)
  · refine lv_iconst (v := 0) hx hb dX0_liesLow_19 (by decide) ?_
    exact r_zret hx hb hr hlk rfl ((bv_f c_12).symm) dX0_liesLow_20
  · refine lv_iconst (v := 1) hx hb dX0_liesLow_15 (by decide) ?_
    refine lv_goto (tgt := 20) hx hb dX0_liesLow_16 (by decide) ?_
    exact r_zret hx hb hr hlk rfl ((bv_t c_12).symm) dX0_liesLow_20

set_option maxHeartbeats 4000000 in
set_option maxRecDepth 100000 in
theorem k0_isBefore (l : Launch) (D : va_G) (cA : ClassId) (q0 q1 z : Nat) (lw hg : Int32) (O U : Prop) (mv : Nat) (M : Nat → Nat) (p1 p2 : Int32) : Met l yX0_isBefore wsX0_isBefore ({ frames := 0, cells := 0, slots := 0, locals := 0 }) (rPc D (kW q0 q1 cA z lw hg O U mv M) [(cA, .int)] [.ref q0, .int p1, .int p2]) (vp_Si (fun r => r = bv (cBef U p1 p2))) 0 0 (fun _ => False) := by
  refine r_head (C := RX0) (cc := cX0_isBefore) (maxL := 3) (ret := (some .boolean)) [(0, .ref q0), (1, .int p1), (2, .int p2)] (by decide) rfl rfl (Nat.le_of_ble_eq_true rfl) rfl ?_
  intro p e s mi below meth cd hx hb hr hlk hml hown hts hP hK ls hl
  have hiX00 : ∀ w ∈ wsX00, w ∈ wsX0_isBefore := fun w h => List.mem_cons_of_mem _ (List.mem_append_right _ h)
  have f0 := hts (.fieldLink RX0 45 "StaffHeads$Chord" "up" "Z") (List.mem_of_getElem? (i := 1) rfl)
  refine lv_aload_n hx hb dX0_isBefore_0 rfl (lv_at hl 0 rfl) ?_
  refine va_get (D := D) (ci := 0) (v := .int (bv U)) (C := RX0) (T := TX0) (N := 7) hx hb hts hiX00 hown hK.1 hP 0 rfl rfl 5 (by decide) f0 (fun _ h9 => h9) rfl dX0_isBefore_1 ?_
  refine x_ifeq (tgt := 20) hx hb dX0_isBefore_4 (by decide) (fun (c_4 : ¬ (U)) => ?_) (fun (c_4 : U) => ?_)
  · refine lv_iload_n hx hb dX0_isBefore_20 rfl (lv_at hl 1 rfl) ?_
    refine lv_iload_n hx hb dX0_isBefore_21 rfl (lv_at hl 2 rfl) ?_
    refine x_ile (tgt := 29) hx hb dX0_isBefore_22 (by decide) (fun c_22 => ?_) (fun c_22 => ?_)
    · refine lv_iconst (v := 0) hx hb dX0_isBefore_29 (by decide) ?_
      exact r_zret hx hb hr hlk rfl ((bv_f (fun h => h.elim (fun h => c_4 h.1) (fun h => c_22 h.2))).symm) dX0_isBefore_30
    · refine lv_iconst (v := 1) hx hb dX0_isBefore_25 (by decide) ?_
      refine lv_goto (tgt := 30) hx hb dX0_isBefore_26 (by decide) ?_
      exact r_zret hx hb hr hlk rfl ((bv_t (Or.inr ⟨c_4, c_22⟩)).symm) dX0_isBefore_30
  · refine lv_iload_n hx hb dX0_isBefore_7 rfl (lv_at hl 1 rfl) ?_
    refine lv_iload_n hx hb dX0_isBefore_8 rfl (lv_at hl 2 rfl) ?_
    refine x_ige (tgt := 16) hx hb dX0_isBefore_9 (by decide) (fun c_9 => ?_) (fun c_9 => ?_)
    · refine lv_iconst (v := 0) hx hb dX0_isBefore_16 (by decide) ?_
      refine lv_goto (tgt := 30) hx hb dX0_isBefore_17 (by decide) ?_
      exact r_zret hx hb hr hlk rfl ((bv_f (fun h => h.elim (fun h => c_9 h.2) (fun h => h.1 c_4))).symm) dX0_isBefore_30
    · refine lv_iconst (v := 1) hx hb dX0_isBefore_12 (by decide) ?_
      refine lv_goto (tgt := 30) hx hb dX0_isBefore_13 (by decide) ?_
      exact r_zret hx hb hr hlk rfl ((bv_t (Or.inl ⟨c_4, c_9⟩)).symm) dX0_isBefore_30

set_option maxHeartbeats 4000000 in
set_option maxRecDepth 100000 in
theorem k0_reachUp (l : Launch) (D : va_G) (cA : ClassId) (q0 q1 z : Nat) (lw hg : Int32) (O U : Prop) (mv : Nat) (M : Nat → Nat) : Met l yX0_reachUp wsX0_reachUp ({ frames := 1, cells := 0, slots := 0, locals := 21 }) (rPc D (kW q0 q1 cA z lw hg O U mv M) [(cA, .int)] [.ref q0]) (vp_Si (fun r => r = cI (U ∧ ¬ O) (mxI (hg + 7) 4) hg)) 0 0 (fun _ => False) := by
  refine r_head (C := RX0) (cc := cX0_reachUp) (maxL := 1) (ret := (some .int)) [(0, .ref q0)] (by decide) rfl rfl (Nat.le_of_ble_eq_true rfl) rfl ?_
  intro p e s mi below meth cd hx hb hr hlk hml hown hts hP hK ls hl
  have hiX00 : ∀ w ∈ wsX00, w ∈ wsX0_reachUp := fun w h => List.mem_cons_of_mem _ (List.mem_append_right _ h)
  have f0 := hts (.fieldLink RX0 45 "StaffHeads$Chord" "up" "Z") (List.mem_of_getElem? (i := 1) rfl)
  have f1 := hts (.fieldLink RX0 35 "StaffHeads$Chord" "highest" "I") (List.mem_of_getElem? (i := 3) rfl)
  have f2 := hts (.fieldLink RX0 19 "StaffHeads$Chord" "onlyWhole" "Z") (List.mem_of_getElem? (i := 2) rfl)
  have f3 := hts (.methodLink RX0 38 Lib.Math.max.name) (List.mem_of_getElem? (i := 4) rfl)
  have f4 := hts (.static Lib.Math.max.name) (List.mem_of_getElem? (i := 5) rfl)
  have f5 := hts (.initialized "java/lang/Math") (List.mem_of_getElem? (i := 6) rfl)
  have f6 := hts (.code Lib.Math.max.name Lib.Math.max.code 2 (some .int)) (List.mem_of_getElem? (i := 7) rfl)
  refine lv_aload_n hx hb dX0_reachUp_0 rfl (lv_at hl 0 rfl) ?_
  refine va_get (D := D) (ci := 0) (v := .int (bv U)) (C := RX0) (T := TX0) (N := 7) hx hb hts hiX00 hown hK.1 hP 0 rfl rfl 5 (by decide) f0 (fun _ h9 => h9) rfl dX0_reachUp_1 ?_
  refine x_ifeq (tgt := 28) hx hb dX0_reachUp_4 (by decide) (fun (c_4 : ¬ (U)) => ?_) (fun (c_4 : U) => ?_)
  · refine lv_aload_n hx hb dX0_reachUp_28 rfl (lv_at hl 0 rfl) ?_
    refine va_get (D := D) (ci := 0) (v := .int hg) (C := RX0) (T := TX0) (N := 7) hx hb hts hiX00 hown hK.1 hP 0 rfl rfl 3 (by decide) f1 (fun _ h9 => h9) rfl dX0_reachUp_29 ?_
    exact r_iret hx hb hr hlk (cI_f (fun h => c_4 h.1)).symm dX0_reachUp_32
  · refine lv_aload_n hx hb dX0_reachUp_7 rfl (lv_at hl 0 rfl) ?_
    refine va_get (D := D) (ci := 0) (v := .int (bv O)) (C := RX0) (T := TX0) (N := 7) hx hb hts hiX00 hown hK.1 hP 0 rfl rfl 4 (by decide) f2 (fun _ h9 => h9) rfl dX0_reachUp_8 ?_
    refine x_ifne (tgt := 28) hx hb dX0_reachUp_11 (by decide) (fun (c_11 : O) => ?_) (fun (c_11 : ¬ (O)) => ?_)
    · refine lv_aload_n hx hb dX0_reachUp_28 rfl (lv_at hl 0 rfl) ?_
      refine va_get (D := D) (ci := 0) (v := .int hg) (C := RX0) (T := TX0) (N := 7) hx hb hts hiX00 hown hK.1 hP 0 rfl rfl 3 (by decide) f1 (fun _ h9 => h9) rfl dX0_reachUp_29 ?_
      exact r_iret hx hb hr hlk (cI_f (fun h => h.2 c_11)).symm dX0_reachUp_32
    · refine lv_aload_n hx hb dX0_reachUp_14 rfl (lv_at hl 0 rfl) ?_
      refine va_get (D := D) (ci := 0) (v := .int hg) (C := RX0) (T := TX0) (N := 7) hx hb hts hiX00 hown hK.1 hP 0 rfl rfl 3 (by decide) f1 (fun _ h9 => h9) rfl dX0_reachUp_15 ?_
      refine lv_bipush (v := 7) hx hb dX0_reachUp_18 (by decide) ?_
      refine lv_iadd hx hb dX0_reachUp_20 ?_
      refine lv_iconst (v := 4) hx hb dX0_reachUp_21 (by decide) ?_
      refine va_mmax hx hb (hml.trans hl.1.symm) hown f3 f4 f5 f6 (Nat.le_of_ble_eq_true rfl) (Nat.le_of_ble_eq_true rfl) (Nat.zero_le _) (Nat.zero_le _) dX0_reachUp_22 ?_
      refine lv_goto (tgt := 32) hx hb dX0_reachUp_25 (by decide) ?_
      exact r_iret hx hb hr hlk (cI_t (P := U ∧ ¬ O) ⟨c_4, c_11⟩).symm dX0_reachUp_32

set_option maxHeartbeats 4000000 in
set_option maxRecDepth 100000 in
theorem k0_reachDown (l : Launch) (D : va_G) (cA : ClassId) (q0 q1 z : Nat) (lw hg : Int32) (O U : Prop) (mv : Nat) (M : Nat → Nat) : Met l yX0_reachDown wsX0_reachDown ({ frames := 1, cells := 0, slots := 0, locals := 21 }) (rPc D (kW q0 q1 cA z lw hg O U mv M) [(cA, .int)] [.ref q0]) (vp_Si (fun r => r = cI (¬ U ∧ ¬ O) (mnI (lw - 7) 4) lw)) 0 0 (fun _ => False) := by
  refine r_head (C := RX0) (cc := cX0_reachDown) (maxL := 1) (ret := (some .int)) [(0, .ref q0)] (by decide) rfl rfl (Nat.le_of_ble_eq_true rfl) rfl ?_
  intro p e s mi below meth cd hx hb hr hlk hml hown hts hP hK ls hl
  have hiX00 : ∀ w ∈ wsX00, w ∈ wsX0_reachDown := fun w h => List.mem_cons_of_mem _ (List.mem_append_right _ h)
  have f0 := hts (.fieldLink RX0 45 "StaffHeads$Chord" "up" "Z") (List.mem_of_getElem? (i := 1) rfl)
  have f1 := hts (.fieldLink RX0 26 "StaffHeads$Chord" "lowest" "I") (List.mem_of_getElem? (i := 3) rfl)
  have f2 := hts (.fieldLink RX0 19 "StaffHeads$Chord" "onlyWhole" "Z") (List.mem_of_getElem? (i := 2) rfl)
  have f3 := hts (.methodLink RX0 29 Lib.Math.min.name) (List.mem_of_getElem? (i := 4) rfl)
  have f4 := hts (.static Lib.Math.min.name) (List.mem_of_getElem? (i := 5) rfl)
  have f5 := hts (.initialized "java/lang/Math") (List.mem_of_getElem? (i := 6) rfl)
  have f6 := hts (.code Lib.Math.min.name Lib.Math.min.code 2 (some .int)) (List.mem_of_getElem? (i := 7) rfl)
  refine lv_aload_n hx hb dX0_reachDown_0 rfl (lv_at hl 0 rfl) ?_
  refine va_get (D := D) (ci := 0) (v := .int (bv U)) (C := RX0) (T := TX0) (N := 7) hx hb hts hiX00 hown hK.1 hP 0 rfl rfl 5 (by decide) f0 (fun _ h9 => h9) rfl dX0_reachDown_1 ?_
  refine x_ifne (tgt := 28) hx hb dX0_reachDown_4 (by decide) (fun (c_4 : U) => ?_) (fun (c_4 : ¬ (U)) => ?_)
  · refine lv_aload_n hx hb dX0_reachDown_28 rfl (lv_at hl 0 rfl) ?_
    refine va_get (D := D) (ci := 0) (v := .int lw) (C := RX0) (T := TX0) (N := 7) hx hb hts hiX00 hown hK.1 hP 0 rfl rfl 2 (by decide) f1 (fun _ h9 => h9) rfl dX0_reachDown_29 ?_
    exact r_iret hx hb hr hlk (cI_f (fun h => h.1 c_4)).symm dX0_reachDown_32
  · refine lv_aload_n hx hb dX0_reachDown_7 rfl (lv_at hl 0 rfl) ?_
    refine va_get (D := D) (ci := 0) (v := .int (bv O)) (C := RX0) (T := TX0) (N := 7) hx hb hts hiX00 hown hK.1 hP 0 rfl rfl 4 (by decide) f2 (fun _ h9 => h9) rfl dX0_reachDown_8 ?_
    refine x_ifne (tgt := 28) hx hb dX0_reachDown_11 (by decide) (fun (c_11 : O) => ?_) (fun (c_11 : ¬ (O)) => ?_)
    · refine lv_aload_n hx hb dX0_reachDown_28 rfl (lv_at hl 0 rfl) ?_
      refine va_get (D := D) (ci := 0) (v := .int lw) (C := RX0) (T := TX0) (N := 7) hx hb hts hiX00 hown hK.1 hP 0 rfl rfl 2 (by decide) f1 (fun _ h9 => h9) rfl dX0_reachDown_29 ?_
      exact r_iret hx hb hr hlk (cI_f (fun h => h.2 c_11)).symm dX0_reachDown_32
    · refine lv_aload_n hx hb dX0_reachDown_14 rfl (lv_at hl 0 rfl) ?_
      refine va_get (D := D) (ci := 0) (v := .int lw) (C := RX0) (T := TX0) (N := 7) hx hb hts hiX00 hown hK.1 hP 0 rfl rfl 2 (by decide) f1 (fun _ h9 => h9) rfl dX0_reachDown_15 ?_
      refine lv_bipush (v := 7) hx hb dX0_reachDown_18 (by decide) ?_
      refine lv_isub hx hb dX0_reachDown_20 ?_
      refine lv_iconst (v := 4) hx hb dX0_reachDown_21 (by decide) ?_
      refine va_mmin hx hb (hml.trans hl.1.symm) hown f3 f4 f5 f6 (Nat.le_of_ble_eq_true rfl) (Nat.le_of_ble_eq_true rfl) (Nat.zero_le _) (Nat.zero_le _) dX0_reachDown_22 ?_
      refine lv_goto (tgt := 32) hx hb dX0_reachDown_25 (by decide) ?_
      exact r_iret hx hb hr hlk (cI_t (P := ¬ U ∧ ¬ O) ⟨c_4, c_11⟩).symm dX0_reachDown_32

set_option maxHeartbeats 4000000 in
set_option maxRecDepth 100000 in
theorem k0_turnHeads (l : Launch) (D : va_G) (cA : ClassId) (q0 q1 z : Nat) (lw hg : Int32) (O U : Prop) (mv : Nat) (M : Nat → Nat) (q2 q3 : Nat) (sp as : Nat → Int32) [Decidable U] (sz : Nat) (hz : z ≤ 60) (hM : ∀ i, i < z → M i < 60) (hsp : ∀ i, i < z → spB (sp (M i))) : Met l yX0_turnHeads wsX0_turnHeads ({ frames := 1, cells := 0, slots := 0, locals := 21 }) (wPc D (kW q0 q1 cA z lw hg O U mv M ++ aW q2 cA 60 sp ++ aW q3 cA 60 as) [(cA, .int)] sz [.ref q0, .ref q2, .ref q3]) (va_Qv (fun _ : Unit => True) (wB D (kW q0 q1 cA z lw hg O U mv M ++ aW q2 cA 60 sp ++ aW q3 cA 60 as) sz (fun _ => kW q0 q1 cA z lw hg O U mv M ++ aW q2 cA 60 sp ++ aW q3 cA 60 (rTurn sp M U as z))) (va_A (kW q0 q1 cA z lw hg O U mv M ++ aW q2 cA 60 sp ++ aW q3 cA 60 as) sz)) 0 0 (va_A (kW q0 q1 cA z lw hg O U mv M ++ aW q2 cA 60 sp ++ aW q3 cA 60 as) sz) := by
  refine w_head (C := RX0) (cc := cX0_turnHeads) (maxL := 7) (ret := none) [(0, .ref q0), (1, .ref q2), (2, .ref q3)] (by decide) rfl rfl (Nat.le_of_ble_eq_true rfl) rfl ?_
  intro p e s mi below meth cd hx hb hr hlk hml hown hin hts hP hD hS hA hK ls hl
  have hiX00 : ∀ w ∈ wsX00, w ∈ wsX0_turnHeads := fun w h => List.mem_cons_of_mem _ (List.mem_append_right _ h)
  have f0 := hts (.fieldLink RX0 15 "StaffHeads$Chord" "size" "I") (List.mem_of_getElem? (i := 1) rfl)
  have f1 := hts (.fieldLink RX0 9 "StaffHeads$Chord" "heads" "[I") (List.mem_of_getElem? (i := 2) rfl)
  have f2 := hts (.fieldLink RX0 45 "StaffHeads$Chord" "up" "Z") (List.mem_of_getElem? (i := 7) rfl)
  have f3 := hts (.methodLink RX0 48 Lib.Math.abs.name) (List.mem_of_getElem? (i := 3) rfl)
  have f4 := hts (.static Lib.Math.abs.name) (List.mem_of_getElem? (i := 4) rfl)
  have f5 := hts (.initialized "java/lang/Math") (List.mem_of_getElem? (i := 5) rfl)
  have f6 := hts (.code Lib.Math.abs.name Lib.Math.abs.code 1 (some .int)) (List.mem_of_getElem? (i := 6) rfl)
  refine lv_iconst (v := 0) hx hb dX0_turnHeads_0 (by decide) ?_
  refine x_tp (y := bv (rAsP sp M 0 = true)) (bv_f (fun h => Bool.noConfusion h)).symm ?_
  refine lv_istore_n (lv' := [(3, .int (bv (rAsP sp M 0 = true))), (0, .ref q0), (1, .ref q2), (2, .ref q3)]) hx hb dX0_turnHeads_1 rfl hl (by decide) rfl (fun ls hl => ?_)
  refine lv_iconst (v := 0) hx hb dX0_turnHeads_2 (by decide) ?_
  refine x_tp (y := nI 0) nI_0.symm ?_
  refine lv_istore (lv' := [(4, .int (nI 0)), (3, .int (bv (rAsP sp M 0 = true))), (0, .ref q0), (1, .ref q2), (2, .ref q3)]) hx hb dX0_turnHeads_3 hl (by decide) rfl (fun ls hl => ?_)
  refine lpW (G := fun ls H locs => W p _ e _ s mi _ below meth cd H locs _ _ _ (F0 mi 5 ls [])) 7 z (fun i (_ : Unit) => [(0, .ref q0), (1, .ref q2), (2, .ref q3), (3, .int (bv (rAsP sp M i = true))), (4, .int (nI i))]) (fun i (_ : Unit) => kW q0 q1 cA z lw hg O U mv M ++ aW q2 cA 60 sp ++ aW q3 cA 60 (rTurn sp M U as i)) (fun _ _ => True) ?_ 0 () (Nat.zero_le _) trivial (lv_sub hl [2, 3, 4, 1, 0] rfl) hP hD hS
  clear hl hP hD hS
  intro i gu hi hiI ls H locs hl hP hD hS ihi
  refine lv_iload hx hb dX0_turnHeads_5 (lv_at hl 4 rfl) ?_
  refine lv_aload_n hx hb dX0_turnHeads_7 rfl (lv_at hl 0 rfl) ?_
  refine va_get (D := D) (ci := 0) (v := .int (nI z)) (C := RX0) (T := TX0) (N := 7) hx hb hts hiX00 hown hK.1 hP 0 rfl rfl 1 (by decide) f0 (fun _ h9 => h9) rfl dX0_turnHeads_8 ?_
  refine x_nge (tgt := 103) hx hb dX0_turnHeads_11 (by decide) (by omega) (by omega) (fun c_11 => ?_) (fun c_11 => ?_)
  · obtain rfl : z = i := by omega
    exact w_vret () hx hb hr hlk hP hD hS (trivial) dX0_turnHeads_103
  · have hMi := hM i c_11
    refine lv_aload_n hx hb dX0_turnHeads_14 rfl (lv_at hl 0 rfl) ?_
    refine va_get (D := D) (ci := 0) (v := .ref q1) (C := RX0) (T := TX0) (N := 7) hx hb hts hiX00 hown hK.1 hP 0 rfl rfl 0 (by decide) f1 (fun _ h9 => h9) rfl dX0_turnHeads_15 ?_
    refine lv_iload hx hb dX0_turnHeads_18 (lv_at hl 4 rfl) ?_
    refine x_iald hx hb hK hP 1 0 rfl rfl (k := i) (by omega) (by decide) dX0_turnHeads_20 ?_
    refine lv_istore (lv' := [(5, .int (nI (M i))), (0, .ref q0), (1, .ref q2), (2, .ref q3), (3, .int (bv (rAsP sp M i = true))), (4, .int (nI i))]) hx hb dX0_turnHeads_21 hl (by decide) rfl (fun ls hl => ?_)
    refine x_join 7 [(5, .int (nI (M i))), (0, .ref q0), (1, .ref q2), (2, .ref q3), (3, .int (bv (rAsP sp M i = true))), (4, .int (nI i))] 56 [.int (bv (0 < i ∧ ¬ 1 < absI (sp (M i) - sp (M (i - 1)))))] ?_ (fun j_56 => ?_)
    · intro ls hl
      refine lv_istore (lv' := [(6, .int (bv (0 < i ∧ ¬ 1 < absI (sp (M i) - sp (M (i - 1)))))), (5, .int (nI (M i))), (0, .ref q0), (1, .ref q2), (2, .ref q3), (3, .int (bv (rAsP sp M i = true))), (4, .int (nI i))]) hx hb dX0_turnHeads_56 hl (by decide) rfl (fun ls hl => ?_)
      refine x_join 7 [(6, .int (bv (0 < i ∧ ¬ 1 < absI (sp (M i) - sp (M (i - 1)))))), (5, .int (nI (M i))), (0, .ref q0), (1, .ref q2), (2, .ref q3), (3, .int (bv (rAsP sp M i = true))), (4, .int (nI i))] 72 [.int (bv (rAsP sp M (i + 1) = true))] ?_ (fun j_72 => ?_)
      · intro ls hl
        refine lv_istore_n (lv' := [(3, .int (bv (rAsP sp M (i + 1) = true))), (6, .int (bv (0 < i ∧ ¬ 1 < absI (sp (M i) - sp (M (i - 1)))))), (5, .int (nI (M i))), (0, .ref q0), (1, .ref q2), (2, .ref q3), (4, .int (nI i))]) hx hb dX0_turnHeads_72 rfl hl (by decide) rfl (fun ls hl => ?_)
        refine lv_aload_n hx hb dX0_turnHeads_73 rfl (lv_at hl 5 rfl) ?_
        refine lv_iload hx hb dX0_turnHeads_74 (lv_at hl 2 rfl) ?_
        refine x_join 7 [(3, .int (bv (rAsP sp M (i + 1) = true))), (6, .int (bv (0 < i ∧ ¬ 1 < absI (sp (M i) - sp (M (i - 1)))))), (5, .int (nI (M i))), (0, .ref q0), (1, .ref q2), (2, .ref q3), (4, .int (nI i))] 96 [.int (rAsV sp M i U), .int (nI (M i)), .ref q3] ?_ (fun j_96 => ?_)
        · intro ls hl
          refine x_iast hx hb hK hP hD hS 3 0 rfl rfl (k := (M i)) (by omega) (by decide) dX0_turnHeads_96 (fun H locs hP hD hS => ?_)
          have hP : va_P D vwCl (kW q0 q1 cA z lw hg O U mv M ++ aW q2 cA 60 sp ++ aW q3 cA 60 (upd (rTurn sp M U as i) (M i) (rAsV sp M i U))) H := hP
          have hD : va_D (va_A (kW q0 q1 cA z lw hg O U mv M ++ aW q2 cA 60 sp ++ aW q3 cA 60 as) sz) (kW q0 q1 cA z lw hg O U mv M ++ aW q2 cA 60 sp ++ aW q3 cA 60 (upd (rTurn sp M U as i) (M i) (rAsV sp M i U))) := hD
          have hP : va_P D vwCl (kW q0 q1 cA z lw hg O U mv M ++ aW q2 cA 60 sp ++ aW q3 cA 60 (rTurn sp M U as (i + 1))) H := hP
          have hD : va_D (va_A (kW q0 q1 cA z lw hg O U mv M ++ aW q2 cA 60 sp ++ aW q3 cA 60 as) sz) (kW q0 q1 cA z lw hg O U mv M ++ aW q2 cA 60 sp ++ aW q3 cA 60 (rTurn sp M U as (i + 1))) := hD
          refine lv_iinc (v := nI (i + 1)) (lv' := [(4, .int (nI (i + 1))), (3, .int (bv (rAsP sp M (i + 1) = true))), (6, .int (bv (0 < i ∧ ¬ 1 < absI (sp (M i) - sp (M (i - 1)))))), (5, .int (nI (M i))), (0, .ref q0), (1, .ref q2), (2, .ref q3)]) hx hb dX0_turnHeads_97 hl (k := 6) rfl (x_inc i) (by decide) rfl (fun ls hl => ?_)
          refine lv_goto (tgt := 5) hx hb dX0_turnHeads_100 (by decide) ?_
          exact ihi (by omega) () _ _ _ trivial (lv_sub hl [4, 5, 6, 1, 0] rfl) hP hD hS
        refine lv_iload_n hx hb dX0_turnHeads_76 rfl (lv_at hl 0 rfl) ?_
        refine x_ifeq (tgt := 95) hx hb dX0_turnHeads_77 (by decide) (fun (c_77 : ¬ (rAsP sp M (i + 1) = true)) => ?_) (fun (c_77 : rAsP sp M (i + 1) = true) => ?_)
        · have c_77 : ¬ rAsd sp M i = true := c_77
          refine lv_iconst (v := 0) hx hb dX0_turnHeads_95 (by decide) ?_
          refine x_tp (y := rAsV sp M i U) (by rw [rAsV, if_neg c_77]) ?_
          exact j_96 _ (lv_sub hl [0, 1, 2, 3, 4, 5, 6] rfl)
        · have c_77 : rAsd sp M i = true := c_77
          refine lv_aload_n hx hb dX0_turnHeads_80 rfl (lv_at hl 3 rfl) ?_
          refine va_get (D := D) (ci := 0) (v := .int (bv U)) (C := RX0) (T := TX0) (N := 7) hx hb hts hiX00 hown hK.1 hP 0 rfl rfl 5 (by decide) f2 (fun _ h9 => h9) rfl dX0_turnHeads_81 ?_
          refine x_ifeq (tgt := 91) hx hb dX0_turnHeads_84 (by decide) (fun (c_84 : ¬ (U)) => ?_) (fun (c_84 : U) => ?_)
          · refine lv_iconst (v := (-1)) hx hb dX0_turnHeads_91 (by decide) ?_
            refine lv_goto (tgt := 96) hx hb dX0_turnHeads_92 (by decide) ?_
            refine x_tp (y := rAsV sp M i U) (by rw [rAsV, if_pos c_77, if_neg c_84]) ?_
            exact j_96 _ (lv_sub hl [0, 1, 2, 3, 4, 5, 6] rfl)
          · refine lv_iconst (v := 1) hx hb dX0_turnHeads_87 (by decide) ?_
            refine lv_goto (tgt := 96) hx hb dX0_turnHeads_88 (by decide) ?_
            refine x_tp (y := rAsV sp M i U) (by rw [rAsV, if_pos c_77, if_pos c_84]) ?_
            exact j_96 _ (lv_sub hl [0, 1, 2, 3, 4, 5, 6] rfl)
      refine lv_iload hx hb dX0_turnHeads_58 (lv_at hl 0 rfl) ?_
      refine x_ifeq (tgt := 71) hx hb dX0_turnHeads_60 (by decide) (fun (c_60 : ¬ (0 < i ∧ ¬ 1 < absI (sp (M i) - sp (M (i - 1))))) => ?_) (fun (c_60 : 0 < i ∧ ¬ 1 < absI (sp (M i) - sp (M (i - 1)))) => ?_)
      · refine lv_iconst (v := 0) hx hb dX0_turnHeads_71 (by decide) ?_
        refine x_tp (y := bv (rAsP sp M (i + 1) = true)) (bv_f (by cases i with | zero => exact fun h => Bool.noConfusion h | succ k => exact fun h => c_60 ⟨by omega, (abs_le1 (hsp _ (by omega)) (hsp _ (by omega))).mpr ⟨(rAsd_i h).1, (rAsd_i h).2.1⟩⟩)).symm ?_
        exact j_72 _ (lv_sub hl [0, 1, 2, 3, 4, 5, 6] rfl)
      · refine lv_iload_n hx hb dX0_turnHeads_63 rfl (lv_at hl 5 rfl) ?_
        refine x_ifne (tgt := 71) hx hb dX0_turnHeads_64 (by decide) (fun (c_64 : rAsP sp M i = true) => ?_) (fun (c_64 : ¬ (rAsP sp M i = true)) => ?_)
        · refine lv_iconst (v := 0) hx hb dX0_turnHeads_71 (by decide) ?_
          refine x_tp (y := bv (rAsP sp M (i + 1) = true)) (bv_f (by obtain ⟨k, rfl⟩ : ∃ k, i = k + 1 := ⟨i - 1, by omega⟩; exact fun h => (rAsd_i h).2.2 c_64)).symm ?_
          exact j_72 _ (lv_sub hl [0, 1, 2, 3, 4, 5, 6] rfl)
        · refine lv_iconst (v := 1) hx hb dX0_turnHeads_67 (by decide) ?_
          refine lv_goto (tgt := 72) hx hb dX0_turnHeads_68 (by decide) ?_
          refine x_tp (y := bv (rAsP sp M (i + 1) = true)) (bv_t (by obtain ⟨k, rfl⟩ : ∃ k, i = k + 1 := ⟨i - 1, by omega⟩; exact rAsd_t ((abs_le1 (hsp _ (by omega)) (hsp _ (by omega))).mp c_60.2).1 ((abs_le1 (hsp _ (by omega)) (hsp _ (by omega))).mp c_60.2).2 c_64)).symm ?_
          exact j_72 _ (lv_sub hl [0, 1, 2, 3, 4, 5, 6] rfl)
    refine lv_iload hx hb dX0_turnHeads_23 (lv_at hl 5 rfl) ?_
    refine x_cle (tgt := 55) hx hb dX0_turnHeads_25 (by decide) (fun c_25 => ?_) (fun c_25 => ?_)
    · have c_25 : ¬ 0 < i := fun h => c_25 ((nI_pos0 (by omega)).mpr h)
      refine lv_iconst (v := 0) hx hb dX0_turnHeads_55 (by decide) ?_
      refine x_tp (y := bv (0 < i ∧ ¬ 1 < absI (sp (M i) - sp (M (i - 1))))) (bv_f (fun h => c_25 h.1)).symm ?_
      exact j_56 _ (lv_sub hl [0, 1, 2, 3, 4, 5] rfl)
    · have c_25 : 0 < i := (nI_pos0 (by omega)).mp c_25
      have hMj := hM (i - 1) (by omega)
      refine lv_aload_n hx hb dX0_turnHeads_28 rfl (lv_at hl 2 rfl) ?_
      refine lv_iload hx hb dX0_turnHeads_29 (lv_at hl 0 rfl) ?_
      refine x_iald hx hb hK hP 2 0 rfl rfl (k := (M i)) (by omega) (by decide) dX0_turnHeads_31 ?_
      refine lv_aload_n hx hb dX0_turnHeads_32 rfl (lv_at hl 2 rfl) ?_
      refine lv_aload_n hx hb dX0_turnHeads_33 rfl (lv_at hl 1 rfl) ?_
      refine va_get (D := D) (ci := 0) (v := .ref q1) (C := RX0) (T := TX0) (N := 7) hx hb hts hiX00 hown hK.1 hP 0 rfl rfl 0 (by decide) f1 (fun _ h9 => h9) rfl dX0_turnHeads_34 ?_
      refine lv_iload hx hb dX0_turnHeads_37 (lv_at hl 5 rfl) ?_
      refine lv_iconst (v := 1) hx hb dX0_turnHeads_39 (by decide) ?_
      refine lv_isub hx hb dX0_turnHeads_40 ?_
      refine x_tp (y := nI (i - 1)) (x_sub1 c_25) ?_
      refine x_iald hx hb hK hP 1 0 rfl rfl (k := (i - 1)) (by omega) (by decide) dX0_turnHeads_41 ?_
      refine x_iald hx hb hK hP 2 0 rfl rfl (k := (M (i - 1))) (by omega) (by decide) dX0_turnHeads_42 ?_
      refine lv_isub hx hb dX0_turnHeads_43 ?_
      refine va_mabs hx hb (hml.trans hl.1.symm) hown f3 f4 f5 f6 (Nat.le_of_ble_eq_true rfl) (Nat.le_of_ble_eq_true rfl) (Nat.zero_le _) (Nat.zero_le _) dX0_turnHeads_44 ?_
      refine x_tp (y := absI (sp (M i) - sp (M (i - 1)))) rfl ?_
      refine lv_iconst (v := 1) hx hb dX0_turnHeads_47 (by decide) ?_
      refine lv_icmp_gt (tgt := 55) hx hb dX0_turnHeads_48 (by decide) (fun c_48 => ?_) (fun c_48 => ?_)
      · refine lv_iconst (v := 0) hx hb dX0_turnHeads_55 (by decide) ?_
        refine x_tp (y := bv (0 < i ∧ ¬ 1 < absI (sp (M i) - sp (M (i - 1))))) (bv_f (fun h => h.2 c_48)).symm ?_
        exact j_56 _ (lv_sub hl [0, 1, 2, 3, 4, 5] rfl)
      · refine lv_iconst (v := 1) hx hb dX0_turnHeads_51 (by decide) ?_
        refine lv_goto (tgt := 56) hx hb dX0_turnHeads_52 (by decide) ?_
        refine x_tp (y := bv (0 < i ∧ ¬ 1 < absI (sp (M i) - sp (M (i - 1))))) (bv_t ⟨c_25, c_48⟩).symm ?_
        exact j_56 _ (lv_sub hl [0, 1, 2, 3, 4, 5] rfl)

set_option maxHeartbeats 4000000 in
set_option maxRecDepth 100000 in
theorem k0_sort (l : Launch) (D : va_G) (cA : ClassId) (q0 q1 z : Nat) (lw hg : Int32) (O U : Prop) (mv : Nat) (M : Nat → Nat) (q2 : Nat) (sp : Nat → Int32) (sz : Nat) (tt : Nat → Nat) (hz : z ≤ 60) (hok : rSrtOk sp U M tt z) (hb60 : ∀ i j, rSrt M tt i j < 60) (hbI : ∀ i t j, rIns (rSrt M tt i) (i + 1) t j < 60) : Met l yX0_sortFromStemsFarEnd wsX0_sortFromStemsFarEnd ({ frames := 1, cells := 0, slots := 0, locals := 22 }) (wPc D (kW q0 q1 cA z lw hg O U mv M ++ aW q2 cA 60 sp) [(cA, .int)] sz [.ref q0, .ref q2]) (va_Qv (fun _ : Unit => True) (wB D (kW q0 q1 cA z lw hg O U mv M ++ aW q2 cA 60 sp) sz (fun _ => kW q0 q1 cA z lw hg O U mv (rSrt M tt (z - 1)) ++ aW q2 cA 60 sp)) (va_A (kW q0 q1 cA z lw hg O U mv M ++ aW q2 cA 60 sp) sz)) 0 0 (va_A (kW q0 q1 cA z lw hg O U mv M ++ aW q2 cA 60 sp) sz) := by
  refine w_head (C := RX0) (cc := cX0_sortFromStemsFarEnd) (maxL := 5) (ret := none) [(0, .ref q0), (1, .ref q2)] (by decide) rfl rfl (Nat.le_of_ble_eq_true rfl) rfl ?_
  intro p e s mi below meth cd hx hb hr hlk hml hown hin hts hP hD hS hA hK ls hl
  have hiX00 : ∀ w ∈ wsX00, w ∈ wsX0_sortFromStemsFarEnd := fun w h => List.mem_cons_of_mem _ (List.mem_append_right _ h)
  have f0 := hts (.fieldLink RX0 15 "StaffHeads$Chord" "size" "I") (List.mem_of_getElem? (i := 1) rfl)
  have f1 := hts (.fieldLink RX0 9 "StaffHeads$Chord" "heads" "[I") (List.mem_of_getElem? (i := 2) rfl)
  refine lv_iconst (v := 1) hx hb dX0_sortFromStemsFarEnd_0 (by decide) ?_
  refine x_tp (y := nI (0 + 1)) (show (1 : Int32) = nI (0 + 1) from rfl) ?_
  refine lv_istore_n (lv' := [(2, .int (nI (0 + 1))), (0, .ref q0), (1, .ref q2)]) hx hb dX0_sortFromStemsFarEnd_1 rfl hl (by decide) rfl (fun ls hl => ?_)
  refine lpW (G := fun ls H locs => W p _ e _ s mi _ below meth cd H locs _ _ _ (F0 mi 2 ls [])) 5 (z - 1) (fun i (_ : Unit) => [(0, .ref q0), (1, .ref q2), (2, .int (nI (i + 1)))]) (fun i (_ : Unit) => kW q0 q1 cA z lw hg O U mv (rSrt M tt i) ++ aW q2 cA 60 sp) (fun _ _ => True) ?_ 0 () (Nat.zero_le _) trivial (lv_sub hl [1, 2, 0] rfl) hP hD hS
  clear hl hP hD hS
  intro i gu hi hiI ls H locs hl hP hD hS ihi
  refine lv_iload_n hx hb dX0_sortFromStemsFarEnd_2 rfl (lv_at hl 2 rfl) ?_
  refine lv_aload_n hx hb dX0_sortFromStemsFarEnd_3 rfl (lv_at hl 0 rfl) ?_
  refine va_get (D := D) (ci := 0) (v := .int (nI z)) (C := RX0) (T := TX0) (N := 7) hx hb hts hiX00 hown hK.1 hP 0 rfl rfl 1 (by decide) f0 (fun _ h9 => h9) rfl dX0_sortFromStemsFarEnd_4 ?_
  refine x_nge (tgt := 82) hx hb dX0_sortFromStemsFarEnd_7 (by decide) (by omega) (by omega) (fun c_7 => ?_) (fun c_7 => ?_)
  · obtain rfl : z - 1 = i := by omega
    exact w_vret () hx hb hr hlk hP hD hS (trivial) dX0_sortFromStemsFarEnd_82
  · obtain ⟨ht1, ht2, ht3⟩ := hok i c_7
    have hbd := hb60 i
    refine lv_aload_n hx hb dX0_sortFromStemsFarEnd_10 rfl (lv_at hl 0 rfl) ?_
    refine va_get (D := D) (ci := 0) (v := .ref q1) (C := RX0) (T := TX0) (N := 7) hx hb hts hiX00 hown hK.1 hP 0 rfl rfl 0 (by decide) f1 (fun _ h9 => h9) rfl dX0_sortFromStemsFarEnd_11 ?_
    refine lv_iload_n hx hb dX0_sortFromStemsFarEnd_14 rfl (lv_at hl 2 rfl) ?_
    refine x_iald hx hb hK hP 1 0 rfl rfl (k := (i + 1)) (by omega) (by decide) dX0_sortFromStemsFarEnd_15 ?_
    refine lv_istore_n (lv' := [(3, .int (nI ((rSrt M tt i) (i + 1)))), (0, .ref q0), (1, .ref q2), (2, .int (nI (i + 1)))]) hx hb dX0_sortFromStemsFarEnd_16 rfl hl (by decide) rfl (fun ls hl => ?_)
    refine lv_iload_n hx hb dX0_sortFromStemsFarEnd_17 rfl (lv_at hl 3 rfl) ?_
    refine x_tp (y := nI (i + 1 - 0)) rfl ?_
    refine lv_istore (lv' := [(4, .int (nI (i + 1 - 0))), (3, .int (nI ((rSrt M tt i) (i + 1)))), (0, .ref q0), (1, .ref q2), (2, .int (nI (i + 1)))]) hx hb dX0_sortFromStemsFarEnd_18 hl (by decide) rfl (fun ls hl => ?_)
    refine lpW (G := fun ls H locs => W p _ e _ s mi _ below meth cd H locs _ _ _ (F0 mi 20 ls [])) 5 (tt i) (fun t (_ : Unit) => [(0, .ref q0), (1, .ref q2), (2, .int (nI (i + 1))), (3, .int (nI (rSrt M tt i (i + 1)))), (4, .int (nI (i + 1 - t)))]) (fun t (_ : Unit) => kW q0 q1 cA z lw hg O U mv (rIns (rSrt M tt i) (i + 1) t) ++ aW q2 cA 60 sp) (fun _ _ => True) ?_ 0 () (Nat.zero_le _) trivial (lv_sub hl [2, 3, 4, 1, 0] rfl) hP hD hS
    clear hl hP hD hS
    intro t gu ht htI ls H locs hl hP hD hS iht
    refine lv_iload hx hb dX0_sortFromStemsFarEnd_20 (lv_at hl 4 rfl) ?_
    refine x_cle (tgt := 68) hx hb dX0_sortFromStemsFarEnd_22 (by decide) (fun c_22 => ?_) (fun c_22 => ?_)
    · have c_22 : ¬ 0 < i + 1 - t := fun h => c_22 ((nI_pos0 (by omega)).mpr h)
      obtain rfl : tt i = t := by omega
      refine lv_aload_n hx hb dX0_sortFromStemsFarEnd_68 rfl (lv_at hl 0 rfl) ?_
      refine va_get (D := D) (ci := 0) (v := .ref q1) (C := RX0) (T := TX0) (N := 7) hx hb hts hiX00 hown hK.1 hP 0 rfl rfl 0 (by decide) f1 (fun _ h9 => h9) rfl dX0_sortFromStemsFarEnd_69 ?_
      refine lv_iload hx hb dX0_sortFromStemsFarEnd_72 (lv_at hl 4 rfl) ?_
      refine lv_iload_n hx hb dX0_sortFromStemsFarEnd_74 rfl (lv_at hl 3 rfl) ?_
      refine x_iastN hx hb hK hP hD hS 1 0 rfl rfl (k := (i + 1 - (tt i))) (by omega) (by decide) dX0_sortFromStemsFarEnd_75 (fun H locs hP hD hS => ?_)
      have hP : va_P D vwCl (kW q0 q1 cA z lw hg O U mv (va_up (rIns (rSrt M tt i) (i + 1) (tt i)) (i + 1 - (tt i)) (rSrt M tt i (i + 1))) ++ aW q2 cA 60 sp) H := hP
      have hD : va_D (va_A (kW q0 q1 cA z lw hg O U mv M ++ aW q2 cA 60 sp) sz) (kW q0 q1 cA z lw hg O U mv (va_up (rIns (rSrt M tt i) (i + 1) (tt i)) (i + 1 - (tt i)) (rSrt M tt i (i + 1))) ++ aW q2 cA 60 sp) := hD
      have hP : va_P D vwCl (kW q0 q1 cA z lw hg O U mv (rSrt M tt (i + 1)) ++ aW q2 cA 60 sp) H := hP
      have hD : va_D (va_A (kW q0 q1 cA z lw hg O U mv M ++ aW q2 cA 60 sp) sz) (kW q0 q1 cA z lw hg O U mv (rSrt M tt (i + 1)) ++ aW q2 cA 60 sp) := hD
      refine lv_iinc (v := nI (i + 1 + 1)) (lv' := [(2, .int (nI (i + 1 + 1))), (0, .ref q0), (1, .ref q2), (3, .int (nI (rSrt M tt i (i + 1)))), (4, .int (nI (i + 1 - (tt i))))]) hx hb dX0_sortFromStemsFarEnd_76 hl (k := 2) rfl (x_inc (i + 1)) (by decide) rfl (fun ls hl => ?_)
      refine lv_goto (tgt := 2) hx hb dX0_sortFromStemsFarEnd_79 (by decide) ?_
      exact ihi (by omega) () _ _ _ trivial (lv_sub hl [1, 2, 0] rfl) hP hD hS
    · have c_22 : 0 < i + 1 - t := (nI_pos0 (by omega)).mp c_22
      have hbt := hbI i t
      refine lv_aload_n hx hb dX0_sortFromStemsFarEnd_25 rfl (lv_at hl 0 rfl) ?_
      refine lv_aload_n hx hb dX0_sortFromStemsFarEnd_26 rfl (lv_at hl 1 rfl) ?_
      refine lv_iload_n hx hb dX0_sortFromStemsFarEnd_27 rfl (lv_at hl 3 rfl) ?_
      refine x_iald hx hb hK hP 2 0 rfl rfl (k := (rSrt M tt i (i + 1))) (hbd (i + 1)) (by decide) dX0_sortFromStemsFarEnd_28 ?_
      refine lv_aload_n hx hb dX0_sortFromStemsFarEnd_29 rfl (lv_at hl 1 rfl) ?_
      refine lv_aload_n hx hb dX0_sortFromStemsFarEnd_30 rfl (lv_at hl 0 rfl) ?_
      refine va_get (D := D) (ci := 0) (v := .ref q1) (C := RX0) (T := TX0) (N := 7) hx hb hts hiX00 hown hK.1 hP 0 rfl rfl 0 (by decide) f1 (fun _ h9 => h9) rfl dX0_sortFromStemsFarEnd_31 ?_
      refine lv_iload hx hb dX0_sortFromStemsFarEnd_34 (lv_at hl 4 rfl) ?_
      refine lv_iconst (v := 1) hx hb dX0_sortFromStemsFarEnd_36 (by decide) ?_
      refine lv_isub hx hb dX0_sortFromStemsFarEnd_37 ?_
      refine x_tp (y := nI (i + 1 - t - 1)) (x_sub1 c_22) ?_
      refine x_iald hx hb hK hP 1 0 rfl rfl (k := (i + 1 - t - 1)) (by omega) (by decide) dX0_sortFromStemsFarEnd_38 ?_
      refine x_iald hx hb hK hP 2 0 rfl rfl (k := ((rIns (rSrt M tt i) (i + 1) t) (i + 1 - t - 1))) (hbt (i + 1 - t - 1)) (by decide) dX0_sortFromStemsFarEnd_39 ?_
      refine rcVi (As := [.int (sp (rSrt M tt i (i + 1))), .int (sp ((rIns (rSrt M tt i) (i + 1) t) (i + 1 - t - 1)))]) (rest := []) ⟨hx, hb, hml, hown, hts⟩ (k0_isBefore l D cA q0 q1 z lw hg O U mv (rIns (rSrt M tt i) (i + 1) t) (sp (rSrt M tt i (i + 1))) (sp ((rIns (rSrt M tt i) (i + 1) t) (i + 1 - t - 1))) ) (cwV 2 hts gX0_sortFromStemsFarEnd_X0_isBefore rfl rfl rfl (by decide +kernel) ⟨Nat.le_of_ble_eq_true rfl, Nat.le_of_ble_eq_true rfl⟩) (va_recv hK.1 hP (ci := 0) (q0 := 0) rfl rfl) (hP.sub [0, 1] rfl) hK rfl hl.1 rfl (Nat.le_of_ble_eq_true rfl) dX0_sortFromStemsFarEnd_40 ⟨Nat.zero_le _, Nat.zero_le _⟩ ?_
      refine x_ifeq (tgt := 68) hx hb dX0_sortFromStemsFarEnd_43 (by decide) (fun (c_43 : ¬ (cBef U (sp (rSrt M tt i (i + 1))) (sp ((rIns (rSrt M tt i) (i + 1) t) (i + 1 - t - 1))))) => ?_) (fun (c_43 : cBef U (sp (rSrt M tt i (i + 1))) (sp ((rIns (rSrt M tt i) (i + 1) t) (i + 1 - t - 1)))) => ?_)
      · have htt : tt i = t := by
          rcases Nat.lt_or_ge t (tt i) with q | q
          · exact absurd (ht2 t q) c_43
          · omega
        subst htt
        refine lv_aload_n hx hb dX0_sortFromStemsFarEnd_68 rfl (lv_at hl 0 rfl) ?_
        refine va_get (D := D) (ci := 0) (v := .ref q1) (C := RX0) (T := TX0) (N := 7) hx hb hts hiX00 hown hK.1 hP 0 rfl rfl 0 (by decide) f1 (fun _ h9 => h9) rfl dX0_sortFromStemsFarEnd_69 ?_
        refine lv_iload hx hb dX0_sortFromStemsFarEnd_72 (lv_at hl 4 rfl) ?_
        refine lv_iload_n hx hb dX0_sortFromStemsFarEnd_74 rfl (lv_at hl 3 rfl) ?_
        refine x_iastN hx hb hK hP hD hS 1 0 rfl rfl (k := (i + 1 - (tt i))) (by omega) (by decide) dX0_sortFromStemsFarEnd_75 (fun H locs hP hD hS => ?_)
        have hP : va_P D vwCl (kW q0 q1 cA z lw hg O U mv (va_up (rIns (rSrt M tt i) (i + 1) (tt i)) (i + 1 - (tt i)) (rSrt M tt i (i + 1))) ++ aW q2 cA 60 sp) H := hP
        have hD : va_D (va_A (kW q0 q1 cA z lw hg O U mv M ++ aW q2 cA 60 sp) sz) (kW q0 q1 cA z lw hg O U mv (va_up (rIns (rSrt M tt i) (i + 1) (tt i)) (i + 1 - (tt i)) (rSrt M tt i (i + 1))) ++ aW q2 cA 60 sp) := hD
        have hP : va_P D vwCl (kW q0 q1 cA z lw hg O U mv (rSrt M tt (i + 1)) ++ aW q2 cA 60 sp) H := hP
        have hD : va_D (va_A (kW q0 q1 cA z lw hg O U mv M ++ aW q2 cA 60 sp) sz) (kW q0 q1 cA z lw hg O U mv (rSrt M tt (i + 1)) ++ aW q2 cA 60 sp) := hD
        refine lv_iinc (v := nI (i + 1 + 1)) (lv' := [(2, .int (nI (i + 1 + 1))), (0, .ref q0), (1, .ref q2), (3, .int (nI (rSrt M tt i (i + 1)))), (4, .int (nI (i + 1 - (tt i))))]) hx hb dX0_sortFromStemsFarEnd_76 hl (k := 2) rfl (x_inc (i + 1)) (by decide) rfl (fun ls hl => ?_)
        refine lv_goto (tgt := 2) hx hb dX0_sortFromStemsFarEnd_79 (by decide) ?_
        exact ihi (by omega) () _ _ _ trivial (lv_sub hl [1, 2, 0] rfl) hP hD hS
      · have htt : t < tt i := by
          rcases Nat.lt_or_ge t (tt i) with q | q
          · exact q
          · obtain rfl : tt i = t := by omega
            exact absurd c_43 (ht3 (by omega))
        refine lv_aload_n hx hb dX0_sortFromStemsFarEnd_46 rfl (lv_at hl 0 rfl) ?_
        refine va_get (D := D) (ci := 0) (v := .ref q1) (C := RX0) (T := TX0) (N := 7) hx hb hts hiX00 hown hK.1 hP 0 rfl rfl 0 (by decide) f1 (fun _ h9 => h9) rfl dX0_sortFromStemsFarEnd_47 ?_
        refine lv_iload hx hb dX0_sortFromStemsFarEnd_50 (lv_at hl 4 rfl) ?_
        refine lv_aload_n hx hb dX0_sortFromStemsFarEnd_52 rfl (lv_at hl 0 rfl) ?_
        refine va_get (D := D) (ci := 0) (v := .ref q1) (C := RX0) (T := TX0) (N := 7) hx hb hts hiX00 hown hK.1 hP 0 rfl rfl 0 (by decide) f1 (fun _ h9 => h9) rfl dX0_sortFromStemsFarEnd_53 ?_
        refine lv_iload hx hb dX0_sortFromStemsFarEnd_56 (lv_at hl 4 rfl) ?_
        refine lv_iconst (v := 1) hx hb dX0_sortFromStemsFarEnd_58 (by decide) ?_
        refine lv_isub hx hb dX0_sortFromStemsFarEnd_59 ?_
        refine x_tp (y := nI (i + 1 - t - 1)) (x_sub1 c_22) ?_
        refine x_iald hx hb hK hP 1 0 rfl rfl (k := (i + 1 - t - 1)) (by omega) (by decide) dX0_sortFromStemsFarEnd_60 ?_
        refine x_iastN hx hb hK hP hD hS 1 0 rfl rfl (k := (i + 1 - t)) (by omega) (by decide) dX0_sortFromStemsFarEnd_61 (fun H locs hP hD hS => ?_)
        have hP : va_P D vwCl (kW q0 q1 cA z lw hg O U mv (va_up (rIns (rSrt M tt i) (i + 1) t) (i + 1 - t) ((rIns (rSrt M tt i) (i + 1) t) (i + 1 - t - 1))) ++ aW q2 cA 60 sp) H := hP
        have hD : va_D (va_A (kW q0 q1 cA z lw hg O U mv M ++ aW q2 cA 60 sp) sz) (kW q0 q1 cA z lw hg O U mv (va_up (rIns (rSrt M tt i) (i + 1) t) (i + 1 - t) ((rIns (rSrt M tt i) (i + 1) t) (i + 1 - t - 1))) ++ aW q2 cA 60 sp) := hD
        have hP : va_P D vwCl (kW q0 q1 cA z lw hg O U mv (rIns (rSrt M tt i) (i + 1) (t + 1)) ++ aW q2 cA 60 sp) H := hP
        have hD : va_D (va_A (kW q0 q1 cA z lw hg O U mv M ++ aW q2 cA 60 sp) sz) (kW q0 q1 cA z lw hg O U mv (rIns (rSrt M tt i) (i + 1) (t + 1)) ++ aW q2 cA 60 sp) := hD
        refine lv_iinc (v := (nI (i + 1 - t)) + (-1)) (lv' := [(4, .int ((nI (i + 1 - t)) + (-1))), (0, .ref q0), (1, .ref q2), (2, .int (nI (i + 1))), (3, .int (nI (rSrt M tt i (i + 1))))]) hx hb dX0_sortFromStemsFarEnd_62 hl (k := 4) rfl rfl (by decide) rfl (fun ls hl => ?_)
        have hl := lv_cast (l' := [(4, .int (nI (i + 1 - (t + 1)))), (0, .ref q0), (1, .ref q2), (2, .int (nI (i + 1))), (3, .int (nI (rSrt M tt i (i + 1))))]) hl (by rw [show (nI (i + 1 - t)) + (-1) = nI (i + 1 - (t + 1)) from (sb_m1 (p := i + 1 - t) c_22)])
        refine lv_goto (tgt := 20) hx hb dX0_sortFromStemsFarEnd_65 (by decide) ?_
        exact iht (by omega) () _ _ _ trivial (lv_sub hl [1, 2, 3, 4, 0] rfl) hP hD hS
