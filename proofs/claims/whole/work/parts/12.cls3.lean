set_option maxHeartbeats 4000000 in
set_option maxRecDepth 100000 in
theorem k3_clear (l : Launch) (D : va_G) (cA : ClassId) (g0 g1 g2 zs : Nat) (Mb T : Nat → Nat) (sz : Nat) : Met l yX3_clear wsX3_clear ({ frames := 0, cells := 0, slots := 0, locals := 0 }) (wPc D (gW g0 g1 g2 cA zs Mb T) [(cA, .int)] sz [.ref g0]) (va_Qv (fun _ : Unit => True) (wB D (gW g0 g1 g2 cA zs Mb T) sz (fun _ => gW g0 g1 g2 cA 0 Mb T)) (va_A (gW g0 g1 g2 cA zs Mb T) sz)) 0 0 (va_A (gW g0 g1 g2 cA zs Mb T) sz) := by
  refine w_head (C := RX3) (cc := cX3_clear) (maxL := 1) (ret := none) [(0, .ref g0)] (by decide) rfl rfl (Nat.le_of_ble_eq_true rfl) rfl ?_
  intro p e s mi below meth cd hx hb hr hlk hml hown hin hts hP hD hS hA hK ls hl
  have hiX30 : ∀ w ∈ wsX30, w ∈ wsX3_clear := fun w h => List.mem_cons_of_mem _ (List.mem_append_right _ h)
  have f0 := hts (.fieldLink RX3 18 "StaffHeads$Signs" "size" "I") (List.mem_of_getElem? (i := 1) rfl)
  refine lv_aload_n hx hb dX3_clear_0 rfl (lv_at hl 0 rfl) ?_
  refine lv_iconst (v := 0) hx hb dX3_clear_1 (by decide) ?_
  refine x_tp (y := nI 0) nI_0.symm ?_
  refine va_put (D := D) (ci := 3) (v := .int (nI 0)) (ty := .int) (C := RX3) (T := TX3) (N := 3) hx hb hts hiX30 tyX3 tyX3_ok nmX3 hown hK.1 hP hD hS 0 rfl rfl 1 (by decide) f0 (fun _ h9 => h9) rfl (by decide +kernel) rfl rfl (Nat.le_of_ble_eq_true rfl) dX3_clear_2 (fun H locs hP hD hS => ?_)
  have hP : va_P D vwCl (gW g0 g1 g2 cA 0 Mb T) H := hP
  have hD : va_D (va_A (gW g0 g1 g2 cA zs Mb T) sz) (gW g0 g1 g2 cA 0 Mb T) := hD
  exact w_vret () hx hb hr hlk hP hD hS (trivial) dX3_clear_5

set_option maxHeartbeats 4000000 in
set_option maxRecDepth 100000 in
theorem k3_add (l : Launch) (D : va_G) (cA : ClassId) (g0 g1 g2 zs : Nat) (Mb T : Nat → Nat) (sz x : Nat) (hz : zs < 60) : Met l yX3_add wsX3_add ({ frames := 0, cells := 0, slots := 0, locals := 0 }) (wPc D (gW g0 g1 g2 cA zs Mb T) [(cA, .int)] sz [.ref g0, .int (nI x)]) (va_Qv (fun _ : Unit => True) (wB D (gW g0 g1 g2 cA zs Mb T) sz (fun _ => gW g0 g1 g2 cA (zs + 1) (va_up Mb zs x) T)) (va_A (gW g0 g1 g2 cA zs Mb T) sz)) 0 0 (va_A (gW g0 g1 g2 cA zs Mb T) sz) := by
  refine w_head (C := RX3) (cc := cX3_add) (maxL := 2) (ret := none) [(0, .ref g0), (1, .int (nI x))] (by decide) rfl rfl (Nat.le_of_ble_eq_true rfl) rfl ?_
  intro p e s mi below meth cd hx hb hr hlk hml hown hin hts hP hD hS hA hK ls hl
  have hiX30 : ∀ w ∈ wsX30, w ∈ wsX3_add := fun w h => List.mem_cons_of_mem _ (List.mem_append_right _ h)
  have f0 := hts (.fieldLink RX3 9 "StaffHeads$Signs" "bearers" "[I") (List.mem_of_getElem? (i := 1) rfl)
  have f1 := hts (.fieldLink RX3 18 "StaffHeads$Signs" "size" "I") (List.mem_of_getElem? (i := 2) rfl)
  refine lv_aload_n hx hb dX3_add_0 rfl (lv_at hl 0 rfl) ?_
  refine va_get (D := D) (ci := 3) (v := .ref g1) (C := RX3) (T := TX3) (N := 3) hx hb hts hiX30 hown hK.1 hP 0 rfl rfl 0 (by decide) f0 (fun _ h9 => h9) rfl dX3_add_1 ?_
  refine lv_aload_n hx hb dX3_add_4 rfl (lv_at hl 0 rfl) ?_
  refine va_get (D := D) (ci := 3) (v := .int (nI zs)) (C := RX3) (T := TX3) (N := 3) hx hb hts hiX30 hown hK.1 hP 0 rfl rfl 1 (by decide) f1 (fun _ h9 => h9) rfl dX3_add_5 ?_
  refine lv_iload_n hx hb dX3_add_8 rfl (lv_at hl 1 rfl) ?_
  refine x_iastN hx hb hK hP hD hS 1 0 rfl rfl (k := zs) (by omega) (by decide) dX3_add_9 (fun H locs hP hD hS => ?_)
  have hP : va_P D vwCl (gW g0 g1 g2 cA zs (va_up Mb zs x) T) H := hP
  have hD : va_D (va_A (gW g0 g1 g2 cA zs Mb T) sz) (gW g0 g1 g2 cA zs (va_up Mb zs x) T) := hD
  refine lv_aload_n hx hb dX3_add_10 rfl (lv_at hl 0 rfl) ?_
  refine lv_dup hx hb dX3_add_11 rfl ?_
  refine va_get (D := D) (ci := 3) (v := .int (nI zs)) (C := RX3) (T := TX3) (N := 3) hx hb hts hiX30 hown hK.1 hP 0 rfl rfl 1 (by decide) f1 (fun _ h9 => h9) rfl dX3_add_12 ?_
  refine lv_iconst (v := 1) hx hb dX3_add_15 (by decide) ?_
  refine lv_iadd hx hb dX3_add_16 ?_
  refine x_tp (y := nI (zs + 1)) (nI_1 zs) ?_
  refine va_put (D := D) (ci := 3) (v := .int (nI (zs + 1))) (ty := .int) (C := RX3) (T := TX3) (N := 3) hx hb hts hiX30 tyX3 tyX3_ok nmX3 hown hK.1 hP hD hS 0 rfl rfl 1 (by decide) f1 (fun _ h9 => h9) rfl (by decide +kernel) rfl rfl (Nat.le_of_ble_eq_true rfl) dX3_add_17 (fun H locs hP hD hS => ?_)
  have hP : va_P D vwCl (gW g0 g1 g2 cA (zs + 1) (va_up Mb zs x) T) H := hP
  have hD : va_D (va_A (gW g0 g1 g2 cA zs Mb T) sz) (gW g0 g1 g2 cA (zs + 1) (va_up Mb zs x) T) := hD
  exact w_vret () hx hb hr hlk hP hD hS (trivial) dX3_add_20

set_option maxHeartbeats 4000000 in
set_option maxRecDepth 100000 in
theorem k3_outermost (l : Launch) (D : va_G) (cA : ClassId) (g0 g1 g2 zs : Nat) (Mb T : Nat → Nat) (q2 q3 : Nat) (sp : Nat → Int32) (C : Nat → Nat) (ev : Prop) [Decidable ev] (hz : zs ≤ 60) (hMb : ∀ i, Mb i < 60) (hC : ∀ j, C j < 61) : Met l yX3_outermost wsX3_outermost ({ frames := 0, cells := 0, slots := 0, locals := 0 }) (rPc D (gW g0 g1 g2 cA zs Mb T ++ aW q2 cA 60 sp ++ aW q3 cA 60 (fun j => nI (C j))) [(cA, .int)] [.ref g0, .int (bv ev), .ref q2, .ref q3]) (vp_Si (fun r => r = enc1 (oPick sp C Mb ev zs))) 0 0 (fun _ => False) := by
  refine r_head (C := RX3) (cc := cX3_outermost) (maxL := 7) (ret := (some .int)) [(0, .ref g0), (1, .int (bv ev)), (2, .ref q2), (3, .ref q3)] (by decide) rfl rfl (Nat.le_of_ble_eq_true rfl) rfl ?_
  intro p e s mi below meth cd hx hb hr hlk hml hown hts hP hK ls hl
  have hiX30 : ∀ w ∈ wsX30, w ∈ wsX3_outermost := fun w h => List.mem_cons_of_mem _ (List.mem_append_right _ h)
  have f0 := hts (.fieldLink RX3 18 "StaffHeads$Signs" "size" "I") (List.mem_of_getElem? (i := 1) rfl)
  have f1 := hts (.fieldLink RX3 9 "StaffHeads$Signs" "bearers" "[I") (List.mem_of_getElem? (i := 2) rfl)
  refine lv_iconst (v := (-1)) hx hb dX3_outermost_0 (by decide) ?_
  refine x_tp (y := enc1 (oPick sp C Mb ev 0)) rfl ?_
  refine lv_istore (lv' := [(4, .int (enc1 (oPick sp C Mb ev 0))), (0, .ref g0), (1, .int (bv ev)), (2, .ref q2), (3, .ref q3)]) hx hb dX3_outermost_1 hl (by decide) rfl (fun ls hl => ?_)
  refine lv_iconst (v := 0) hx hb dX3_outermost_3 (by decide) ?_
  refine x_tp (y := nI 0) nI_0.symm ?_
  refine lv_istore (lv' := [(5, .int (nI 0)), (4, .int (enc1 (oPick sp C Mb ev 0))), (0, .ref g0), (1, .int (bv ev)), (2, .ref q2), (3, .ref q3)]) hx hb dX3_outermost_4 hl (by decide) rfl (fun ls hl => ?_)
  refine lpR (G := fun ls => W p l e _ s mi _ below meth cd _ _ _ _ _ (F0 mi 6 ls [])) 7 zs (fun i (_ : Unit) => [(0, .ref g0), (1, .int (bv ev)), (2, .ref q2), (3, .ref q3), (4, .int (enc1 (oPick sp C Mb ev i))), (5, .int (nI i))]) (fun _ _ => True) ?_ 0 () (Nat.zero_le _) trivial (lv_sub hl [2, 3, 4, 5, 1, 0] rfl)
  clear hl ls
  intro i gu hi hiI ls hl ihi
  refine lv_iload hx hb dX3_outermost_6 (lv_at hl 5 rfl) ?_
  refine lv_aload_n hx hb dX3_outermost_8 rfl (lv_at hl 0 rfl) ?_
  refine va_get (D := D) (ci := 3) (v := .int (nI zs)) (C := RX3) (T := TX3) (N := 3) hx hb hts hiX30 hown hK.1 hP 0 rfl rfl 1 (by decide) f0 (fun _ h9 => h9) rfl dX3_outermost_9 ?_
  refine x_nge (tgt := 75) hx hb dX3_outermost_12 (by decide) (by omega) (by omega) (fun c_12 => ?_) (fun c_12 => ?_)
  · obtain rfl : zs = i := by omega
    refine lv_iload hx hb dX3_outermost_75 (lv_at hl 4 rfl) ?_
    exact r_iret hx hb hr hlk (rfl) dX3_outermost_77
  · have hMi := hMb i
    cases ho : oPick sp C Mb ev i with
    | none =>
      have hl := lv_cast (l' := [(0, .ref g0), (1, .int (bv ev)), (2, .ref q2), (3, .ref q3), (4, .int (-1)), (5, .int (nI i))]) hl (by rw [show enc1 (oPick sp C Mb ev i) = (-1) from (by rw [ho]; rfl)])
      refine lv_aload_n hx hb dX3_outermost_15 rfl (lv_at hl 0 rfl) ?_
      refine va_get (D := D) (ci := 3) (v := .ref g1) (C := RX3) (T := TX3) (N := 3) hx hb hts hiX30 hown hK.1 hP 0 rfl rfl 0 (by decide) f1 (fun _ h9 => h9) rfl dX3_outermost_16 ?_
      refine lv_iload hx hb dX3_outermost_19 (lv_at hl 5 rfl) ?_
      refine x_iald hx hb hK hP 1 0 rfl rfl (k := i) (by omega) (by decide) dX3_outermost_21 ?_
      refine lv_istore (lv' := [(6, .int (nI (Mb i))), (0, .ref g0), (1, .int (bv ev)), (2, .ref q2), (3, .ref q3), (4, .int (-1)), (5, .int (nI i))]) hx hb dX3_outermost_22 hl (by decide) rfl (fun ls hl => ?_)
      refine lv_aload_n hx hb dX3_outermost_24 rfl (lv_at hl 4 rfl) ?_
      refine lv_iload hx hb dX3_outermost_25 (lv_at hl 0 rfl) ?_
      refine x_iald hx hb hK hP 4 0 rfl rfl (k := (Mb i)) (by omega) (by decide) dX3_outermost_27 ?_
      refine lv_if_ne (tgt := 69) hx hb dX3_outermost_28 (by decide) (fun c_28 => ?_) (fun c_28 => ?_)
      · have c_28 : ¬ C (Mb i) = 0 := fun h => c_28 (by rw [h]; rfl)
        have hl := lv_cast (l' := [(6, .int (nI (Mb i))), (0, .ref g0), (1, .int (bv ev)), (2, .ref q2), (3, .ref q3), (4, .int (enc1 (oPick sp C Mb ev (i + 1)))), (5, .int (nI i))]) hl (by rw [show (-1) = enc1 (oPick sp C Mb ev (i + 1)) from (by rw [oPick, ho, if_neg (fun h => c_28 h.1)]; rfl)])
        refine lv_iinc (v := nI (i + 1)) (lv' := [(5, .int (nI (i + 1))), (6, .int (nI (Mb i))), (0, .ref g0), (1, .int (bv ev)), (2, .ref q2), (3, .ref q3), (4, .int (enc1 (oPick sp C Mb ev (i + 1))))]) hx hb dX3_outermost_69 hl (k := 6) rfl (x_inc i) (by decide) rfl (fun ls hl => ?_)
        refine lv_goto (tgt := 6) hx hb dX3_outermost_72 (by decide) ?_
        exact ihi (by omega) () _ trivial (lv_sub hl [2, 3, 4, 5, 6, 0] rfl)
      · have c_28 : C (Mb i) = 0 := (nI_eq (b := 0) (by have := hC (Mb i); omega) (by decide)).mp c_28
        refine lv_iload hx hb dX3_outermost_31 (lv_at hl 5 rfl) ?_
        refine lv_if_lt (tgt := 65) hx hb dX3_outermost_33 (by decide) (fun c_33 => ?_) (fun c_33 => ?_)
        · refine lv_iload hx hb dX3_outermost_65 (lv_at hl 0 rfl) ?_
          refine x_tp (y := enc1 (oPick sp C Mb ev (i + 1))) (by rw [oPick, ho, if_pos ⟨c_28, rfl⟩]; rfl) ?_
          refine lv_istore (lv' := [(4, .int (enc1 (oPick sp C Mb ev (i + 1)))), (6, .int (nI (Mb i))), (0, .ref g0), (1, .int (bv ev)), (2, .ref q2), (3, .ref q3), (5, .int (nI i))]) hx hb dX3_outermost_67 hl (by decide) rfl (fun ls hl => ?_)
          refine lv_iinc (v := nI (i + 1)) (lv' := [(5, .int (nI (i + 1))), (4, .int (enc1 (oPick sp C Mb ev (i + 1)))), (6, .int (nI (Mb i))), (0, .ref g0), (1, .int (bv ev)), (2, .ref q2), (3, .ref q3)]) hx hb dX3_outermost_69 hl (k := 6) rfl (x_inc i) (by decide) rfl (fun ls hl => ?_)
          refine lv_goto (tgt := 6) hx hb dX3_outermost_72 (by decide) ?_
          exact ihi (by omega) () _ trivial (lv_sub hl [3, 4, 5, 6, 1, 0] rfl)
        · exact absurd (by decide) c_33
    | some j =>
      have hj : j < 60 := by obtain ⟨i0, h1, h2⟩ := oPick_lt ho; rw [h2]; exact hMb i0
      have hl := lv_cast (l' := [(0, .ref g0), (1, .int (bv ev)), (2, .ref q2), (3, .ref q3), (4, .int (nI j)), (5, .int (nI i))]) hl (by rw [show enc1 (oPick sp C Mb ev i) = nI j from (by rw [ho]; rfl)])
      refine lv_aload_n hx hb dX3_outermost_15 rfl (lv_at hl 0 rfl) ?_
      refine va_get (D := D) (ci := 3) (v := .ref g1) (C := RX3) (T := TX3) (N := 3) hx hb hts hiX30 hown hK.1 hP 0 rfl rfl 0 (by decide) f1 (fun _ h9 => h9) rfl dX3_outermost_16 ?_
      refine lv_iload hx hb dX3_outermost_19 (lv_at hl 5 rfl) ?_
      refine x_iald hx hb hK hP 1 0 rfl rfl (k := i) (by omega) (by decide) dX3_outermost_21 ?_
      refine lv_istore (lv' := [(6, .int (nI (Mb i))), (0, .ref g0), (1, .int (bv ev)), (2, .ref q2), (3, .ref q3), (4, .int (nI j)), (5, .int (nI i))]) hx hb dX3_outermost_22 hl (by decide) rfl (fun ls hl => ?_)
      refine lv_aload_n hx hb dX3_outermost_24 rfl (lv_at hl 4 rfl) ?_
      refine lv_iload hx hb dX3_outermost_25 (lv_at hl 0 rfl) ?_
      refine x_iald hx hb hK hP 4 0 rfl rfl (k := (Mb i)) (by omega) (by decide) dX3_outermost_27 ?_
      refine lv_if_ne (tgt := 69) hx hb dX3_outermost_28 (by decide) (fun c_28 => ?_) (fun c_28 => ?_)
      · have c_28 : ¬ C (Mb i) = 0 := fun h => c_28 (by rw [h]; rfl)
        have hl := lv_cast (l' := [(6, .int (nI (Mb i))), (0, .ref g0), (1, .int (bv ev)), (2, .ref q2), (3, .ref q3), (4, .int (enc1 (oPick sp C Mb ev (i + 1)))), (5, .int (nI i))]) hl (by rw [show nI j = enc1 (oPick sp C Mb ev (i + 1)) from (by rw [oPick, ho, if_neg (fun h => c_28 h.1)]; rfl)])
        refine lv_iinc (v := nI (i + 1)) (lv' := [(5, .int (nI (i + 1))), (6, .int (nI (Mb i))), (0, .ref g0), (1, .int (bv ev)), (2, .ref q2), (3, .ref q3), (4, .int (enc1 (oPick sp C Mb ev (i + 1))))]) hx hb dX3_outermost_69 hl (k := 6) rfl (x_inc i) (by decide) rfl (fun ls hl => ?_)
        refine lv_goto (tgt := 6) hx hb dX3_outermost_72 (by decide) ?_
        exact ihi (by omega) () _ trivial (lv_sub hl [2, 3, 4, 5, 6, 0] rfl)
      · have c_28 : C (Mb i) = 0 := (nI_eq (b := 0) (by have := hC (Mb i); omega) (by decide)).mp c_28
        refine lv_iload hx hb dX3_outermost_31 (lv_at hl 5 rfl) ?_
        refine lv_if_lt (tgt := 65) hx hb dX3_outermost_33 (by decide) (fun c_33 => ?_) (fun c_33 => ?_)
        · exact absurd c_33 (enc1_neg hj)
        · refine lv_iload_n hx hb dX3_outermost_36 rfl (lv_at hl 2 rfl) ?_
          refine x_ifeq (tgt := 54) hx hb dX3_outermost_37 (by decide) (fun (c_37 : ¬ (ev)) => ?_) (fun (c_37 : ev) => ?_)
          · refine lv_aload_n hx hb dX3_outermost_54 rfl (lv_at hl 3 rfl) ?_
            refine lv_iload hx hb dX3_outermost_55 (lv_at hl 0 rfl) ?_
            refine x_iald hx hb hK hP 3 0 rfl rfl (k := (Mb i)) (by omega) (by decide) dX3_outermost_57 ?_
            refine lv_aload_n hx hb dX3_outermost_58 rfl (lv_at hl 3 rfl) ?_
            refine lv_iload hx hb dX3_outermost_59 (lv_at hl 5 rfl) ?_
            refine x_iald hx hb hK hP 3 0 rfl rfl (k := j) (by omega) (by decide) dX3_outermost_61 ?_
            refine x_ige (tgt := 69) hx hb dX3_outermost_62 (by decide) (fun c_62 => ?_) (fun c_62 => ?_)
            · have hl := lv_cast (l' := [(6, .int (nI (Mb i))), (0, .ref g0), (1, .int (bv ev)), (2, .ref q2), (3, .ref q3), (4, .int (enc1 (oPick sp C Mb ev (i + 1)))), (5, .int (nI i))]) hl (by rw [show nI j = enc1 (oPick sp C Mb ev (i + 1)) from (by rw [oPick, ho, if_neg (fun h => c_62 ((rBet_o c_37).mp h.2))]; rfl)])
              refine lv_iinc (v := nI (i + 1)) (lv' := [(5, .int (nI (i + 1))), (6, .int (nI (Mb i))), (0, .ref g0), (1, .int (bv ev)), (2, .ref q2), (3, .ref q3), (4, .int (enc1 (oPick sp C Mb ev (i + 1))))]) hx hb dX3_outermost_69 hl (k := 6) rfl (x_inc i) (by decide) rfl (fun ls hl => ?_)
              refine lv_goto (tgt := 6) hx hb dX3_outermost_72 (by decide) ?_
              exact ihi (by omega) () _ trivial (lv_sub hl [2, 3, 4, 5, 6, 0] rfl)
            · refine lv_iload hx hb dX3_outermost_65 (lv_at hl 0 rfl) ?_
              refine x_tp (y := enc1 (oPick sp C Mb ev (i + 1))) (by rw [oPick, ho, if_pos ⟨c_28, (rBet_o c_37).mpr c_62⟩]; rfl) ?_
              refine lv_istore (lv' := [(4, .int (enc1 (oPick sp C Mb ev (i + 1)))), (6, .int (nI (Mb i))), (0, .ref g0), (1, .int (bv ev)), (2, .ref q2), (3, .ref q3), (5, .int (nI i))]) hx hb dX3_outermost_67 hl (by decide) rfl (fun ls hl => ?_)
              refine lv_iinc (v := nI (i + 1)) (lv' := [(5, .int (nI (i + 1))), (4, .int (enc1 (oPick sp C Mb ev (i + 1)))), (6, .int (nI (Mb i))), (0, .ref g0), (1, .int (bv ev)), (2, .ref q2), (3, .ref q3)]) hx hb dX3_outermost_69 hl (k := 6) rfl (x_inc i) (by decide) rfl (fun ls hl => ?_)
              refine lv_goto (tgt := 6) hx hb dX3_outermost_72 (by decide) ?_
              exact ihi (by omega) () _ trivial (lv_sub hl [3, 4, 5, 6, 1, 0] rfl)
          · refine lv_aload_n hx hb dX3_outermost_40 rfl (lv_at hl 3 rfl) ?_
            refine lv_iload hx hb dX3_outermost_41 (lv_at hl 0 rfl) ?_
            refine x_iald hx hb hK hP 3 0 rfl rfl (k := (Mb i)) (by omega) (by decide) dX3_outermost_43 ?_
            refine lv_aload_n hx hb dX3_outermost_44 rfl (lv_at hl 3 rfl) ?_
            refine lv_iload hx hb dX3_outermost_45 (lv_at hl 5 rfl) ?_
            refine x_iald hx hb hK hP 3 0 rfl rfl (k := j) (by omega) (by decide) dX3_outermost_47 ?_
            refine x_ile (tgt := 69) hx hb dX3_outermost_48 (by decide) (fun c_48 => ?_) (fun c_48 => ?_)
            · have hl := lv_cast (l' := [(6, .int (nI (Mb i))), (0, .ref g0), (1, .int (bv ev)), (2, .ref q2), (3, .ref q3), (4, .int (enc1 (oPick sp C Mb ev (i + 1)))), (5, .int (nI i))]) hl (by rw [show nI j = enc1 (oPick sp C Mb ev (i + 1)) from (by rw [oPick, ho, if_neg (fun h => c_48 ((rBet_e c_37).mp h.2))]; rfl)])
              refine lv_iinc (v := nI (i + 1)) (lv' := [(5, .int (nI (i + 1))), (6, .int (nI (Mb i))), (0, .ref g0), (1, .int (bv ev)), (2, .ref q2), (3, .ref q3), (4, .int (enc1 (oPick sp C Mb ev (i + 1))))]) hx hb dX3_outermost_69 hl (k := 6) rfl (x_inc i) (by decide) rfl (fun ls hl => ?_)
              refine lv_goto (tgt := 6) hx hb dX3_outermost_72 (by decide) ?_
              exact ihi (by omega) () _ trivial (lv_sub hl [2, 3, 4, 5, 6, 0] rfl)
            · refine lv_goto (tgt := 65) hx hb dX3_outermost_51 (by decide) ?_
              refine lv_iload hx hb dX3_outermost_65 (lv_at hl 0 rfl) ?_
              refine x_tp (y := enc1 (oPick sp C Mb ev (i + 1))) (by rw [oPick, ho, if_pos ⟨c_28, (rBet_e c_37).mpr c_48⟩]; rfl) ?_
              refine lv_istore (lv' := [(4, .int (enc1 (oPick sp C Mb ev (i + 1)))), (6, .int (nI (Mb i))), (0, .ref g0), (1, .int (bv ev)), (2, .ref q2), (3, .ref q3), (5, .int (nI i))]) hx hb dX3_outermost_67 hl (by decide) rfl (fun ls hl => ?_)
              refine lv_iinc (v := nI (i + 1)) (lv' := [(5, .int (nI (i + 1))), (4, .int (enc1 (oPick sp C Mb ev (i + 1)))), (6, .int (nI (Mb i))), (0, .ref g0), (1, .int (bv ev)), (2, .ref q2), (3, .ref q3)]) hx hb dX3_outermost_69 hl (k := 6) rfl (x_inc i) (by decide) rfl (fun ls hl => ?_)
              refine lv_goto (tgt := 6) hx hb dX3_outermost_72 (by decide) ?_
              exact ihi (by omega) () _ trivial (lv_sub hl [3, 4, 5, 6, 1, 0] rfl)

set_option maxHeartbeats 4000000 in
set_option maxRecDepth 100000 in
theorem k3_columnFor (l : Launch) (D : va_G) (cA : ClassId) (g0 g1 g2 zs : Nat) (Mb T : Nat → Nat) (q1 q2 q3 : Nat) (si sp : Nat → Int32) (C : Nat → Nat) (sz x tu r0 : Nat) (hx0 : x < 60) (htu : tu < 100) (hz : zs ≤ 60) (hMb : ∀ i, Mb i < 60) (hC : ∀ j, C j < 61) (hT : ∀ j, T j ≤ tu) (hr0 : cColFor sp si C Mb zs x tu T r0) : Met l yX3_columnFor wsX3_columnFor ({ frames := 1, cells := 0, slots := 0, locals := 21 }) (wPc D (gW g0 g1 g2 cA zs Mb T ++ aW q1 cA 60 si ++ aW q2 cA 60 sp ++ aW q3 cA 60 (fun j => nI (C j))) [(cA, .int)] sz [.ref g0, .int (nI x), .int (nI tu), .ref q1, .ref q2, .ref q3]) (va_Qi (fun (r : Int32) (X : Nat → Nat) => r = nI r0 ∧ ∀ j, X j ≤ tu) (wB D (gW g0 g1 g2 cA zs Mb T ++ aW q1 cA 60 si ++ aW q2 cA 60 sp ++ aW q3 cA 60 (fun j => nI (C j))) sz (fun X => gW g0 g1 g2 cA zs Mb X ++ aW q1 cA 60 si ++ aW q2 cA 60 sp ++ aW q3 cA 60 (fun j => nI (C j)))) (va_A (gW g0 g1 g2 cA zs Mb T ++ aW q1 cA 60 si ++ aW q2 cA 60 sp ++ aW q3 cA 60 (fun j => nI (C j))) sz)) 0 0 (va_A (gW g0 g1 g2 cA zs Mb T ++ aW q1 cA 60 si ++ aW q2 cA 60 sp ++ aW q3 cA 60 (fun j => nI (C j))) sz) := by
  refine w_head (C := RX3) (cc := cX3_columnFor) (maxL := 8) (ret := (some .int)) [(0, .ref g0), (1, .int (nI x)), (2, .int (nI tu)), (3, .ref q1), (4, .ref q2), (5, .ref q3)] (by decide) rfl rfl (Nat.le_of_ble_eq_true rfl) rfl ?_
  intro p e s mi below meth cd hx hb hr hlk hml hown hin hts hP hD hS hA hK ls hl
  have hiX30 : ∀ w ∈ wsX30, w ∈ wsX3_columnFor := fun w h => List.mem_cons_of_mem _ (List.mem_append_right _ h)
  have f0 := hts (.fieldLink RX3 18 "StaffHeads$Signs" "size" "I") (List.mem_of_getElem? (i := 1) rfl)
  have f1 := hts (.fieldLink RX3 15 "StaffHeads$Signs" "takenInTurn" "[I") (List.mem_of_getElem? (i := 7) rfl)
  have f2 := hts (.fieldLink RX3 9 "StaffHeads$Signs" "bearers" "[I") (List.mem_of_getElem? (i := 2) rfl)
  have f3 := hts (.methodLink RX3 42 Lib.Math.abs.name) (List.mem_of_getElem? (i := 3) rfl)
  have f4 := hts (.static Lib.Math.abs.name) (List.mem_of_getElem? (i := 4) rfl)
  have f5 := hts (.initialized "java/lang/Math") (List.mem_of_getElem? (i := 5) rfl)
  have f6 := hts (.code Lib.Math.abs.name Lib.Math.abs.code 1 (some .int)) (List.mem_of_getElem? (i := 6) rfl)
  refine lv_iconst (v := 0) hx hb dX3_columnFor_0 (by decide) ?_
  refine x_tp (y := nI 0) nI_0.symm ?_
  refine lv_istore (lv' := [(6, .int (nI 0)), (0, .ref g0), (1, .int (nI x)), (2, .int (nI tu)), (3, .ref q1), (4, .ref q2), (5, .ref q3)]) hx hb dX3_columnFor_1 hl (by decide) rfl (fun ls hl => ?_)
  refine lpW (G := fun ls H locs => W p l e _ s mi _ below meth cd H locs _ _ _ (F0 mi 3 ls [])) 8 zs (fun i (_ : Unit) => [(0, .ref g0), (1, .int (nI x)), (2, .int (nI tu)), (3, .ref q1), (4, .ref q2), (5, .ref q3), (6, .int (nI i))]) (fun i (_ : Unit) => gW g0 g1 g2 cA zs Mb (rTk sp C Mb x tu T i) ++ aW q1 cA 60 si ++ aW q2 cA 60 sp ++ aW q3 cA 60 (fun j => nI (C j))) (fun i _ => ∀ y, y < i → ¬ cMat sp si C x (Mb y)) ?_ 0 () (Nat.zero_le _) (fun y h => absurd h (Nat.not_lt_zero y)) (lv_sub hl [1, 2, 3, 4, 5, 6, 0] rfl) hP hD hS
  clear hl hP hD hS
  intro i gu hi hiI ls H locs hl hP hD hS ihi
  refine lv_iload hx hb dX3_columnFor_3 (lv_at hl 6 rfl) ?_
  refine lv_aload_n hx hb dX3_columnFor_5 rfl (lv_at hl 0 rfl) ?_
  refine va_get (D := D) (ci := 3) (v := .int (nI zs)) (C := RX3) (T := TX3) (N := 3) hx hb hts hiX30 hown hK.1 hP 0 rfl rfl 1 (by decide) f0 (fun _ h9 => h9) rfl dX3_columnFor_6 ?_
  refine x_nge (tgt := 92) hx hb dX3_columnFor_9 (by decide) (by omega) (by omega) (fun c_9 => ?_) (fun c_9 => ?_)
  · obtain rfl : zs = i := by omega
    have hl : lv_has ls 8 [(0, .ref g0), (1, .int (nI x)), (2, .int (nI tu)), (3, .ref q1), (4, .ref q2), (5, .ref q3)] := lv_sub hl [0, 1, 2, 3, 4, 5] rfl
    obtain ⟨d, hd, hrd, hfr, hnf⟩ : ∃ d, d < 60 ∧ r0 = d + 1 ∧ (d < 59 → ¬ (rTk sp C Mb x tu T zs) (d + 1) = tu) ∧ ∀ k, k < d → (rTk sp C Mb x tu T zs) (k + 1) = tu := by
      rcases hr0 with ⟨k0, g1, g2, g3, g4⟩ | ⟨g1, g2⟩
      · exact absurd g2 (hiI k0 g1)
      · exact g2
    refine lv_iconst (v := 1) hx hb dX3_columnFor_92 (by decide) ?_
    refine x_tp (y := nI (0 + 1)) (show (1 : Int32) = nI (0 + 1) from rfl) ?_
    refine lv_istore (lv' := [(6, .int (nI (0 + 1))), (0, .ref g0), (1, .int (nI x)), (2, .int (nI tu)), (3, .ref q1), (4, .ref q2), (5, .ref q3)]) hx hb dX3_columnFor_93 hl (by decide) rfl (fun ls hl => ?_)
    refine lpR (G := fun ls => W p l e _ s mi _ below meth cd _ _ _ _ _ (F0 mi 95 ls [])) 8 d (fun k (_ : Unit) => [(0, .ref g0), (1, .int (nI x)), (2, .int (nI tu)), (3, .ref q1), (4, .ref q2), (5, .ref q3), (6, .int (nI (k + 1)))]) (fun _ _ => True) ?_ 0 () (Nat.zero_le _) trivial (lv_sub hl [1, 2, 3, 4, 5, 6, 0] rfl)
    clear hl ls
    intro k gu hk hkI ls hl ihk
    refine lv_iload hx hb dX3_columnFor_95 (lv_at hl 6 rfl) ?_
    refine lv_bipush (v := 60) hx hb dX3_columnFor_97 (by decide) ?_
    refine x_tp (y := nI 60) (show (60 : Int32) = nI 60 from rfl) ?_
    refine x_nge (tgt := 119) hx hb dX3_columnFor_99 (by decide) (by omega) (by omega) (fun c_99 => ?_) (fun c_99 => ?_)
    · obtain rfl : d = k := by omega
      refine lv_iload hx hb dX3_columnFor_119 (lv_at hl 6 rfl) ?_
      exact w_iret (S0 := Nat → Nat) (w1 := (fun X => gW g0 g1 g2 cA zs Mb X ++ aW q1 cA 60 si ++ aW q2 cA 60 sp ++ aW q3 cA 60 (fun j => nI (C j)))) (rTk sp C Mb x tu T zs) hx hb hr hlk hP hD hS ⟨(by rw [hrd]), fun j => rTk_le hT _ j⟩ dX3_columnFor_121
    · refine lv_aload_n hx hb dX3_columnFor_102 rfl (lv_at hl 0 rfl) ?_
      refine va_get (D := D) (ci := 3) (v := .ref g2) (C := RX3) (T := TX3) (N := 3) hx hb hts hiX30 hown hK.1 hP 0 rfl rfl 2 (by decide) f1 (fun _ h9 => h9) rfl dX3_columnFor_103 ?_
      refine lv_iload hx hb dX3_columnFor_106 (lv_at hl 6 rfl) ?_
      refine x_iald hx hb hK hP 2 0 rfl rfl (k := (k + 1)) (by omega) (by decide) dX3_columnFor_108 ?_
      have hTl := rTk_le (sp := sp) (C := C) (Mb := Mb) (x := x) (tu := tu) hT zs (k + 1)
      refine lv_iload_n hx hb dX3_columnFor_109 rfl (lv_at hl 2 rfl) ?_
      refine x_nne (tgt := 119) hx hb dX3_columnFor_110 (by decide) (by omega) (by omega) (fun c_110 => ?_) (fun c_110 => ?_)
      · obtain rfl : d = k := by
          rcases Nat.lt_or_ge k d with q | q
          · exact absurd (hnf k q) c_110
          · omega
        refine lv_iload hx hb dX3_columnFor_119 (lv_at hl 6 rfl) ?_
        exact w_iret (S0 := Nat → Nat) (w1 := (fun X => gW g0 g1 g2 cA zs Mb X ++ aW q1 cA 60 si ++ aW q2 cA 60 sp ++ aW q3 cA 60 (fun j => nI (C j)))) (rTk sp C Mb x tu T zs) hx hb hr hlk hP hD hS ⟨(by rw [hrd]), fun j => rTk_le hT _ j⟩ dX3_columnFor_121
      · have hkd : k < d := by
          rcases Nat.lt_or_ge k d with q | q
          · exact q
          · obtain rfl : d = k := by omega
            exact absurd c_110 (hfr (by omega))
        refine lv_iinc (v := nI (k + 1 + 1)) (lv' := [(6, .int (nI (k + 1 + 1))), (0, .ref g0), (1, .int (nI x)), (2, .int (nI tu)), (3, .ref q1), (4, .ref q2), (5, .ref q3)]) hx hb dX3_columnFor_113 hl (k := 6) rfl (x_inc (k + 1)) (by decide) rfl (fun ls hl => ?_)
        refine lv_goto (tgt := 95) hx hb dX3_columnFor_116 (by decide) ?_
        exact ihk (by omega) () _ trivial (lv_sub hl [1, 2, 3, 4, 5, 6, 0] rfl)
  · have hMi := hMb i
    have hCi := hC (Mb i)
    refine lv_aload_n hx hb dX3_columnFor_12 rfl (lv_at hl 0 rfl) ?_
    refine va_get (D := D) (ci := 3) (v := .ref g1) (C := RX3) (T := TX3) (N := 3) hx hb hts hiX30 hown hK.1 hP 0 rfl rfl 0 (by decide) f2 (fun _ h9 => h9) rfl dX3_columnFor_13 ?_
    refine lv_iload hx hb dX3_columnFor_16 (lv_at hl 6 rfl) ?_
    refine x_iald hx hb hK hP 1 0 rfl rfl (k := i) (by omega) (by decide) dX3_columnFor_18 ?_
    refine lv_istore (lv' := [(7, .int (nI (Mb i))), (0, .ref g0), (1, .int (nI x)), (2, .int (nI tu)), (3, .ref q1), (4, .ref q2), (5, .ref q3), (6, .int (nI i))]) hx hb dX3_columnFor_19 hl (by decide) rfl (fun ls hl => ?_)
    refine lv_aload hx hb dX3_columnFor_21 (lv_at hl 6 rfl) ?_
    refine lv_iload hx hb dX3_columnFor_23 (lv_at hl 0 rfl) ?_
    refine x_iald hx hb hK hP 5 0 rfl rfl (k := (Mb i)) (by omega) (by decide) dX3_columnFor_25 ?_
    refine x_cle (tgt := 57) hx hb dX3_columnFor_26 (by decide) (fun c_26 => ?_) (fun c_26 => ?_)
    · have hnm : ¬ cMat sp si C x (Mb i) := fun h => c_26 ((nI_pos0 (by omega)).mpr h.1)
      refine lv_aload hx hb dX3_columnFor_57 (lv_at hl 5 rfl) ?_
      refine lv_iload hx hb dX3_columnFor_59 (lv_at hl 0 rfl) ?_
      refine x_iald hx hb hK hP 4 0 rfl rfl (k := (Mb i)) (by omega) (by decide) dX3_columnFor_61 ?_
      refine lv_aload hx hb dX3_columnFor_62 (lv_at hl 5 rfl) ?_
      refine lv_iload_n hx hb dX3_columnFor_64 rfl (lv_at hl 2 rfl) ?_
      refine x_iald hx hb hK hP 4 0 rfl rfl (k := x) (by omega) (by decide) dX3_columnFor_65 ?_
      refine lv_isub hx hb dX3_columnFor_66 ?_
      refine va_mabs hx hb (hml.trans hl.1.symm) hown f3 f4 f5 f6 (Nat.le_of_ble_eq_true rfl) (Nat.le_of_ble_eq_true rfl) (Nat.zero_le _) (Nat.zero_le _) dX3_columnFor_67 ?_
      refine x_tp (y := absI (sp (Mb i) - sp x)) rfl ?_
      refine lv_bipush (v := 6) hx hb dX3_columnFor_70 (by decide) ?_
      refine x_ige (tgt := 86) hx hb dX3_columnFor_72 (by decide) (fun c_72 => ?_) (fun c_72 => ?_)
      · have hwe : gW g0 g1 g2 cA zs Mb (rTk sp C Mb x tu T i) ++ aW q1 cA 60 si ++ aW q2 cA 60 sp ++ aW q3 cA 60 (fun j => nI (C j)) = gW g0 g1 g2 cA zs Mb (rTk sp C Mb x tu T (i + 1)) ++ aW q1 cA 60 si ++ aW q2 cA 60 sp ++ aW q3 cA 60 (fun j => nI (C j)) := (by rw [show rTk sp C Mb x tu T (i + 1) = rTk sp C Mb x tu T i from if_neg c_72])
        rw [hwe] at hP hD
        refine lv_iinc (v := nI (i + 1)) (lv' := [(6, .int (nI (i + 1))), (7, .int (nI (Mb i))), (0, .ref g0), (1, .int (nI x)), (2, .int (nI tu)), (3, .ref q1), (4, .ref q2), (5, .ref q3)]) hx hb dX3_columnFor_86 hl (k := 7) rfl (x_inc i) (by decide) rfl (fun ls hl => ?_)
        refine lv_goto (tgt := 3) hx hb dX3_columnFor_89 (by decide) ?_
        exact ihi (by omega) () _ _ _ (lt_s hiI hnm) (lv_sub hl [2, 3, 4, 5, 6, 7, 0] rfl) hP hD hS
      · refine lv_aload_n hx hb dX3_columnFor_75 rfl (lv_at hl 1 rfl) ?_
        refine va_get (D := D) (ci := 3) (v := .ref g2) (C := RX3) (T := TX3) (N := 3) hx hb hts hiX30 hown hK.1 hP 0 rfl rfl 2 (by decide) f1 (fun _ h9 => h9) rfl dX3_columnFor_76 ?_
        refine lv_aload hx hb dX3_columnFor_79 (lv_at hl 6 rfl) ?_
        refine lv_iload hx hb dX3_columnFor_81 (lv_at hl 0 rfl) ?_
        refine x_iald hx hb hK hP 5 0 rfl rfl (k := (Mb i)) (by omega) (by decide) dX3_columnFor_83 ?_
        refine lv_iload_n hx hb dX3_columnFor_84 rfl (lv_at hl 3 rfl) ?_
        refine x_iastN hx hb hK hP hD hS 2 0 rfl rfl (k := (C (Mb i))) (by omega) (by decide) dX3_columnFor_85 (fun H locs hP hD hS => ?_)
        have hP : va_P D vwCl (gW g0 g1 g2 cA zs Mb (va_up (rTk sp C Mb x tu T i) (C (Mb i)) tu) ++ aW q1 cA 60 si ++ aW q2 cA 60 sp ++ aW q3 cA 60 (fun j => nI (C j))) H := hP
        have hD : va_D (va_A (gW g0 g1 g2 cA zs Mb T ++ aW q1 cA 60 si ++ aW q2 cA 60 sp ++ aW q3 cA 60 (fun j => nI (C j))) sz) (gW g0 g1 g2 cA zs Mb (va_up (rTk sp C Mb x tu T i) (C (Mb i)) tu) ++ aW q1 cA 60 si ++ aW q2 cA 60 sp ++ aW q3 cA 60 (fun j => nI (C j))) := hD
        have hwe : gW g0 g1 g2 cA zs Mb (va_up (rTk sp C Mb x tu T i) (C (Mb i)) tu) ++ aW q1 cA 60 si ++ aW q2 cA 60 sp ++ aW q3 cA 60 (fun j => nI (C j)) = gW g0 g1 g2 cA zs Mb (rTk sp C Mb x tu T (i + 1)) ++ aW q1 cA 60 si ++ aW q2 cA 60 sp ++ aW q3 cA 60 (fun j => nI (C j)) := (by rw [show rTk sp C Mb x tu T (i + 1) = va_up (rTk sp C Mb x tu T i) (C (Mb i)) tu from if_pos c_72])
        rw [hwe] at hP hD
        refine lv_iinc (v := nI (i + 1)) (lv' := [(6, .int (nI (i + 1))), (7, .int (nI (Mb i))), (0, .ref g0), (1, .int (nI x)), (2, .int (nI tu)), (3, .ref q1), (4, .ref q2), (5, .ref q3)]) hx hb dX3_columnFor_86 hl (k := 7) rfl (x_inc i) (by decide) rfl (fun ls hl => ?_)
        refine lv_goto (tgt := 3) hx hb dX3_columnFor_89 (by decide) ?_
        exact ihi (by omega) () _ _ _ (lt_s hiI hnm) (lv_sub hl [2, 3, 4, 5, 6, 7, 0] rfl) hP hD hS
    · have c_26 : 0 < C (Mb i) := (nI_pos0 (by omega)).mp c_26
      refine lv_aload hx hb dX3_columnFor_29 (lv_at hl 5 rfl) ?_
      refine lv_iload hx hb dX3_columnFor_31 (lv_at hl 0 rfl) ?_
      refine x_iald hx hb hK hP 4 0 rfl rfl (k := (Mb i)) (by omega) (by decide) dX3_columnFor_33 ?_
      refine lv_aload hx hb dX3_columnFor_34 (lv_at hl 5 rfl) ?_
      refine lv_iload_n hx hb dX3_columnFor_36 rfl (lv_at hl 2 rfl) ?_
      refine x_iald hx hb hK hP 4 0 rfl rfl (k := x) (by omega) (by decide) dX3_columnFor_37 ?_
      refine lv_icmp_ne (tgt := 57) hx hb dX3_columnFor_38 (by decide) (fun c_38 => ?_) (fun c_38 => ?_)
      · have hnm : ¬ cMat sp si C x (Mb i) := fun h => c_38 h.2.1
        refine lv_aload hx hb dX3_columnFor_57 (lv_at hl 5 rfl) ?_
        refine lv_iload hx hb dX3_columnFor_59 (lv_at hl 0 rfl) ?_
        refine x_iald hx hb hK hP 4 0 rfl rfl (k := (Mb i)) (by omega) (by decide) dX3_columnFor_61 ?_
        refine lv_aload hx hb dX3_columnFor_62 (lv_at hl 5 rfl) ?_
        refine lv_iload_n hx hb dX3_columnFor_64 rfl (lv_at hl 2 rfl) ?_
        refine x_iald hx hb hK hP 4 0 rfl rfl (k := x) (by omega) (by decide) dX3_columnFor_65 ?_
        refine lv_isub hx hb dX3_columnFor_66 ?_
        refine va_mabs hx hb (hml.trans hl.1.symm) hown f3 f4 f5 f6 (Nat.le_of_ble_eq_true rfl) (Nat.le_of_ble_eq_true rfl) (Nat.zero_le _) (Nat.zero_le _) dX3_columnFor_67 ?_
        refine x_tp (y := absI (sp (Mb i) - sp x)) rfl ?_
        refine lv_bipush (v := 6) hx hb dX3_columnFor_70 (by decide) ?_
        refine x_ige (tgt := 86) hx hb dX3_columnFor_72 (by decide) (fun c_72 => ?_) (fun c_72 => ?_)
        · have hwe : gW g0 g1 g2 cA zs Mb (rTk sp C Mb x tu T i) ++ aW q1 cA 60 si ++ aW q2 cA 60 sp ++ aW q3 cA 60 (fun j => nI (C j)) = gW g0 g1 g2 cA zs Mb (rTk sp C Mb x tu T (i + 1)) ++ aW q1 cA 60 si ++ aW q2 cA 60 sp ++ aW q3 cA 60 (fun j => nI (C j)) := (by rw [show rTk sp C Mb x tu T (i + 1) = rTk sp C Mb x tu T i from if_neg c_72])
          rw [hwe] at hP hD
          refine lv_iinc (v := nI (i + 1)) (lv' := [(6, .int (nI (i + 1))), (7, .int (nI (Mb i))), (0, .ref g0), (1, .int (nI x)), (2, .int (nI tu)), (3, .ref q1), (4, .ref q2), (5, .ref q3)]) hx hb dX3_columnFor_86 hl (k := 7) rfl (x_inc i) (by decide) rfl (fun ls hl => ?_)
          refine lv_goto (tgt := 3) hx hb dX3_columnFor_89 (by decide) ?_
          exact ihi (by omega) () _ _ _ (lt_s hiI hnm) (lv_sub hl [2, 3, 4, 5, 6, 7, 0] rfl) hP hD hS
        · refine lv_aload_n hx hb dX3_columnFor_75 rfl (lv_at hl 1 rfl) ?_
          refine va_get (D := D) (ci := 3) (v := .ref g2) (C := RX3) (T := TX3) (N := 3) hx hb hts hiX30 hown hK.1 hP 0 rfl rfl 2 (by decide) f1 (fun _ h9 => h9) rfl dX3_columnFor_76 ?_
          refine lv_aload hx hb dX3_columnFor_79 (lv_at hl 6 rfl) ?_
          refine lv_iload hx hb dX3_columnFor_81 (lv_at hl 0 rfl) ?_
          refine x_iald hx hb hK hP 5 0 rfl rfl (k := (Mb i)) (by omega) (by decide) dX3_columnFor_83 ?_
          refine lv_iload_n hx hb dX3_columnFor_84 rfl (lv_at hl 3 rfl) ?_
          refine x_iastN hx hb hK hP hD hS 2 0 rfl rfl (k := (C (Mb i))) (by omega) (by decide) dX3_columnFor_85 (fun H locs hP hD hS => ?_)
          have hP : va_P D vwCl (gW g0 g1 g2 cA zs Mb (va_up (rTk sp C Mb x tu T i) (C (Mb i)) tu) ++ aW q1 cA 60 si ++ aW q2 cA 60 sp ++ aW q3 cA 60 (fun j => nI (C j))) H := hP
          have hD : va_D (va_A (gW g0 g1 g2 cA zs Mb T ++ aW q1 cA 60 si ++ aW q2 cA 60 sp ++ aW q3 cA 60 (fun j => nI (C j))) sz) (gW g0 g1 g2 cA zs Mb (va_up (rTk sp C Mb x tu T i) (C (Mb i)) tu) ++ aW q1 cA 60 si ++ aW q2 cA 60 sp ++ aW q3 cA 60 (fun j => nI (C j))) := hD
          have hwe : gW g0 g1 g2 cA zs Mb (va_up (rTk sp C Mb x tu T i) (C (Mb i)) tu) ++ aW q1 cA 60 si ++ aW q2 cA 60 sp ++ aW q3 cA 60 (fun j => nI (C j)) = gW g0 g1 g2 cA zs Mb (rTk sp C Mb x tu T (i + 1)) ++ aW q1 cA 60 si ++ aW q2 cA 60 sp ++ aW q3 cA 60 (fun j => nI (C j)) := (by rw [show rTk sp C Mb x tu T (i + 1) = va_up (rTk sp C Mb x tu T i) (C (Mb i)) tu from if_pos c_72])
          rw [hwe] at hP hD
          refine lv_iinc (v := nI (i + 1)) (lv' := [(6, .int (nI (i + 1))), (7, .int (nI (Mb i))), (0, .ref g0), (1, .int (nI x)), (2, .int (nI tu)), (3, .ref q1), (4, .ref q2), (5, .ref q3)]) hx hb dX3_columnFor_86 hl (k := 7) rfl (x_inc i) (by decide) rfl (fun ls hl => ?_)
          refine lv_goto (tgt := 3) hx hb dX3_columnFor_89 (by decide) ?_
          exact ihi (by omega) () _ _ _ (lt_s hiI hnm) (lv_sub hl [2, 3, 4, 5, 6, 7, 0] rfl) hP hD hS
      · refine lv_aload_n hx hb dX3_columnFor_41 rfl (lv_at hl 4 rfl) ?_
        refine lv_iload hx hb dX3_columnFor_42 (lv_at hl 0 rfl) ?_
        refine x_iald hx hb hK hP 3 0 rfl rfl (k := (Mb i)) (by omega) (by decide) dX3_columnFor_44 ?_
        refine lv_aload_n hx hb dX3_columnFor_45 rfl (lv_at hl 4 rfl) ?_
        refine lv_iload_n hx hb dX3_columnFor_46 rfl (lv_at hl 2 rfl) ?_
        refine x_iald hx hb hK hP 3 0 rfl rfl (k := x) (by omega) (by decide) dX3_columnFor_47 ?_
        refine lv_icmp_ne (tgt := 57) hx hb dX3_columnFor_48 (by decide) (fun c_48 => ?_) (fun c_48 => ?_)
        · have hnm : ¬ cMat sp si C x (Mb i) := fun h => c_48 h.2.2
          refine lv_aload hx hb dX3_columnFor_57 (lv_at hl 5 rfl) ?_
          refine lv_iload hx hb dX3_columnFor_59 (lv_at hl 0 rfl) ?_
          refine x_iald hx hb hK hP 4 0 rfl rfl (k := (Mb i)) (by omega) (by decide) dX3_columnFor_61 ?_
          refine lv_aload hx hb dX3_columnFor_62 (lv_at hl 5 rfl) ?_
          refine lv_iload_n hx hb dX3_columnFor_64 rfl (lv_at hl 2 rfl) ?_
          refine x_iald hx hb hK hP 4 0 rfl rfl (k := x) (by omega) (by decide) dX3_columnFor_65 ?_
          refine lv_isub hx hb dX3_columnFor_66 ?_
          refine va_mabs hx hb (hml.trans hl.1.symm) hown f3 f4 f5 f6 (Nat.le_of_ble_eq_true rfl) (Nat.le_of_ble_eq_true rfl) (Nat.zero_le _) (Nat.zero_le _) dX3_columnFor_67 ?_
          refine x_tp (y := absI (sp (Mb i) - sp x)) rfl ?_
          refine lv_bipush (v := 6) hx hb dX3_columnFor_70 (by decide) ?_
          refine x_ige (tgt := 86) hx hb dX3_columnFor_72 (by decide) (fun c_72 => ?_) (fun c_72 => ?_)
          · have hwe : gW g0 g1 g2 cA zs Mb (rTk sp C Mb x tu T i) ++ aW q1 cA 60 si ++ aW q2 cA 60 sp ++ aW q3 cA 60 (fun j => nI (C j)) = gW g0 g1 g2 cA zs Mb (rTk sp C Mb x tu T (i + 1)) ++ aW q1 cA 60 si ++ aW q2 cA 60 sp ++ aW q3 cA 60 (fun j => nI (C j)) := (by rw [show rTk sp C Mb x tu T (i + 1) = rTk sp C Mb x tu T i from if_neg c_72])
            rw [hwe] at hP hD
            refine lv_iinc (v := nI (i + 1)) (lv' := [(6, .int (nI (i + 1))), (7, .int (nI (Mb i))), (0, .ref g0), (1, .int (nI x)), (2, .int (nI tu)), (3, .ref q1), (4, .ref q2), (5, .ref q3)]) hx hb dX3_columnFor_86 hl (k := 7) rfl (x_inc i) (by decide) rfl (fun ls hl => ?_)
            refine lv_goto (tgt := 3) hx hb dX3_columnFor_89 (by decide) ?_
            exact ihi (by omega) () _ _ _ (lt_s hiI hnm) (lv_sub hl [2, 3, 4, 5, 6, 7, 0] rfl) hP hD hS
          · refine lv_aload_n hx hb dX3_columnFor_75 rfl (lv_at hl 1 rfl) ?_
            refine va_get (D := D) (ci := 3) (v := .ref g2) (C := RX3) (T := TX3) (N := 3) hx hb hts hiX30 hown hK.1 hP 0 rfl rfl 2 (by decide) f1 (fun _ h9 => h9) rfl dX3_columnFor_76 ?_
            refine lv_aload hx hb dX3_columnFor_79 (lv_at hl 6 rfl) ?_
            refine lv_iload hx hb dX3_columnFor_81 (lv_at hl 0 rfl) ?_
            refine x_iald hx hb hK hP 5 0 rfl rfl (k := (Mb i)) (by omega) (by decide) dX3_columnFor_83 ?_
            refine lv_iload_n hx hb dX3_columnFor_84 rfl (lv_at hl 3 rfl) ?_
            refine x_iastN hx hb hK hP hD hS 2 0 rfl rfl (k := (C (Mb i))) (by omega) (by decide) dX3_columnFor_85 (fun H locs hP hD hS => ?_)
            have hP : va_P D vwCl (gW g0 g1 g2 cA zs Mb (va_up (rTk sp C Mb x tu T i) (C (Mb i)) tu) ++ aW q1 cA 60 si ++ aW q2 cA 60 sp ++ aW q3 cA 60 (fun j => nI (C j))) H := hP
            have hD : va_D (va_A (gW g0 g1 g2 cA zs Mb T ++ aW q1 cA 60 si ++ aW q2 cA 60 sp ++ aW q3 cA 60 (fun j => nI (C j))) sz) (gW g0 g1 g2 cA zs Mb (va_up (rTk sp C Mb x tu T i) (C (Mb i)) tu) ++ aW q1 cA 60 si ++ aW q2 cA 60 sp ++ aW q3 cA 60 (fun j => nI (C j))) := hD
            have hwe : gW g0 g1 g2 cA zs Mb (va_up (rTk sp C Mb x tu T i) (C (Mb i)) tu) ++ aW q1 cA 60 si ++ aW q2 cA 60 sp ++ aW q3 cA 60 (fun j => nI (C j)) = gW g0 g1 g2 cA zs Mb (rTk sp C Mb x tu T (i + 1)) ++ aW q1 cA 60 si ++ aW q2 cA 60 sp ++ aW q3 cA 60 (fun j => nI (C j)) := (by rw [show rTk sp C Mb x tu T (i + 1) = va_up (rTk sp C Mb x tu T i) (C (Mb i)) tu from if_pos c_72])
            rw [hwe] at hP hD
            refine lv_iinc (v := nI (i + 1)) (lv' := [(6, .int (nI (i + 1))), (7, .int (nI (Mb i))), (0, .ref g0), (1, .int (nI x)), (2, .int (nI tu)), (3, .ref q1), (4, .ref q2), (5, .ref q3)]) hx hb dX3_columnFor_86 hl (k := 7) rfl (x_inc i) (by decide) rfl (fun ls hl => ?_)
            refine lv_goto (tgt := 3) hx hb dX3_columnFor_89 (by decide) ?_
            exact ihi (by omega) () _ _ _ (lt_s hiI hnm) (lv_sub hl [2, 3, 4, 5, 6, 7, 0] rfl) hP hD hS
        · refine lv_aload hx hb dX3_columnFor_51 (lv_at hl 6 rfl) ?_
          refine lv_iload hx hb dX3_columnFor_53 (lv_at hl 0 rfl) ?_
          refine x_iald hx hb hK hP 5 0 rfl rfl (k := (Mb i)) (by omega) (by decide) dX3_columnFor_55 ?_
          exact w_iret (S0 := Nat → Nat) (w1 := (fun X => gW g0 g1 g2 cA zs Mb X ++ aW q1 cA 60 si ++ aW q2 cA 60 sp ++ aW q3 cA 60 (fun j => nI (C j)))) (rTk sp C Mb x tu T i) hx hb hr hlk hP hD hS ⟨(by
            rcases hr0 with ⟨k0, g1, g2, g3, g4⟩ | ⟨g1, g2⟩
            · have hkk : i = k0 := by
                rcases Nat.lt_trichotomy i k0 with q | q | q
                · exact absurd ⟨c_26, c_38, c_48⟩ (g3 i q)
                · exact q
                · exact absurd g2 (hiI k0 q)
              rw [g4, hkk]
            · exact absurd ⟨c_26, c_38, c_48⟩ (g1 i c_9)), fun j => rTk_le hT _ j⟩ dX3_columnFor_56
