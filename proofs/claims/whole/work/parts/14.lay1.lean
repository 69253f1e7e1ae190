set_option maxHeartbeats 4000000 in
set_option maxRecDepth 100000 in
theorem k1_areShared (l0 : Launch) (D : va_G) (c : Nat → Nat) (cA cC : ClassId) (sl : Prop) (l1 l2 l3 l4 l5 : Nat → Int32) (C : Nat → Nat) (l7 l8 l9 l10 l11 l12 : Nat → Int32) (n : Nat) (a : Nat → Nat → Int32) (x y : Nat) (hx0 : x < 60) (hy0 : y < 60) : Met l0 yX1_areShared wsX1_areShared ({ frames := 0, cells := 0, slots := 0, locals := 0 }) (rPc D (lyW c cA cC sl l1 l2 l3 l4 l5 C l7 l8 l9 l10 l11 l12 ++ noW c cA n a) [(cA, .int), (cC, .object "StaffHeads$Chord")] [.ref (c 14), .ref (c 7), .int (nI x), .int (nI y)]) (vp_Si (fun r => r = bv (cSh l1 l2 (a 12) (a 11) x y))) 0 0 (fun _ => False) := by
  refine r_head (C := RX1) (cc := cX1_areShared) (maxL := 4) (ret := (some .boolean)) [(0, .ref (c 14)), (1, .ref (c 7)), (2, .int (nI x)), (3, .int (nI y))] (by decide) rfl rfl (Nat.le_of_ble_eq_true rfl) rfl ?_
  intro p e s mi below meth cd hx hb hr hlk hml hown hts hP hK ls hl
  have hiX10 : ∀ w ∈ wsX10, w ∈ wsX1_areShared := fun w h => List.mem_cons_of_mem _ (List.mem_append_left _ (List.mem_append_right _ h))
  have hiX20 : ∀ w ∈ wsX20, w ∈ wsX1_areShared := fun w h => List.mem_cons_of_mem _ (List.mem_append_right _ h)
  have f0 := hts (.fieldLink RX1 15 "StaffHeads$Layout" "step" "[I") (List.mem_of_getElem? (i := 1) rfl)
  have f1 := hts (.fieldLink RX1 146 "StaffHeads$Notes" "head" "[I") (List.mem_of_getElem? (i := 2) rfl)
  have f2 := hts (.fieldLink RX1 130 "StaffHeads$Notes" "sign" "[I") (List.mem_of_getElem? (i := 3) rfl)
  have f3 := hts (.fieldLink RX1 19 "StaffHeads$Layout" "stem" "[I") (List.mem_of_getElem? (i := 4) rfl)
  have hK1 : kK D [(cA, .int)] s := ⟨hK.1.sub [0] rfl, hK.2⟩
  refine lv_aload_n hx hb dX1_areShared_0 rfl (lv_at hl 0 rfl) ?_
  refine va_get (D := D) (ci := 1) (v := .ref (c 15)) (C := RX1) (T := TX1) (N := 15) hx hb hts hiX10 hown hK.1 hP 0 rfl rfl 1 (by decide) f0 (fun _ h9 => h9) rfl dX1_areShared_1 ?_
  refine lv_iload_n hx hb dX1_areShared_4 rfl (lv_at hl 2 rfl) ?_
  refine x_iald hx hb hK hP 1 0 rfl rfl (k := x) (by omega) (by decide) dX1_areShared_5 ?_
  refine lv_aload_n hx hb dX1_areShared_6 rfl (lv_at hl 0 rfl) ?_
  refine va_get (D := D) (ci := 1) (v := .ref (c 15)) (C := RX1) (T := TX1) (N := 15) hx hb hts hiX10 hown hK.1 hP 0 rfl rfl 1 (by decide) f0 (fun _ h9 => h9) rfl dX1_areShared_7 ?_
  refine lv_iload_n hx hb dX1_areShared_10 rfl (lv_at hl 3 rfl) ?_
  refine x_iald hx hb hK hP 1 0 rfl rfl (k := y) (by omega) (by decide) dX1_areShared_11 ?_
  refine lv_icmp_ne (tgt := 64) hx hb dX1_areShared_12 (by decide) (fun c_12 => ?_) (fun c_12 => ?_)
  · refine lv_iconst (v := 0) hx hb dX1_areShared_64 (by decide) ?_
    exact r_zret hx hb hr hlk rfl ((bv_f (fun h => c_12 h.1)).symm) dX1_areShared_65
  · refine lv_aload_n hx hb dX1_areShared_15 rfl (lv_at hl 1 rfl) ?_
    refine va_get (D := D) (ci := 2) (v := .ref (c 13)) (C := RX2) (T := TX2) (N := 7) hx hb hts hiX20 hown hK.1 hP 14 rfl rfl 5 (by decide) f1 (fun _ h9 => h9) rfl dX1_areShared_16 ?_
    refine lv_iload_n hx hb dX1_areShared_19 rfl (lv_at hl 2 rfl) ?_
    refine x_iald hx hb hK hP 20 0 rfl rfl (k := x) (by omega) (by decide) dX1_areShared_20 ?_
    refine lv_aload_n hx hb dX1_areShared_21 rfl (lv_at hl 1 rfl) ?_
    refine va_get (D := D) (ci := 2) (v := .ref (c 13)) (C := RX2) (T := TX2) (N := 7) hx hb hts hiX20 hown hK.1 hP 14 rfl rfl 5 (by decide) f1 (fun _ h9 => h9) rfl dX1_areShared_22 ?_
    refine lv_iload_n hx hb dX1_areShared_25 rfl (lv_at hl 3 rfl) ?_
    refine x_iald hx hb hK hP 20 0 rfl rfl (k := y) (by omega) (by decide) dX1_areShared_26 ?_
    refine lv_icmp_ne (tgt := 64) hx hb dX1_areShared_27 (by decide) (fun c_27 => ?_) (fun c_27 => ?_)
    · refine lv_iconst (v := 0) hx hb dX1_areShared_64 (by decide) ?_
      exact r_zret hx hb hr hlk rfl ((bv_f (fun h => c_27 h.2.1)).symm) dX1_areShared_65
    · refine lv_aload_n hx hb dX1_areShared_30 rfl (lv_at hl 1 rfl) ?_
      refine va_get (D := D) (ci := 2) (v := .ref (c 12)) (C := RX2) (T := TX2) (N := 7) hx hb hts hiX20 hown hK.1 hP 14 rfl rfl 4 (by decide) f2 (fun _ h9 => h9) rfl dX1_areShared_31 ?_
      refine lv_iload_n hx hb dX1_areShared_34 rfl (lv_at hl 2 rfl) ?_
      refine x_iald hx hb hK hP 19 0 rfl rfl (k := x) (by omega) (by decide) dX1_areShared_35 ?_
      refine lv_aload_n hx hb dX1_areShared_36 rfl (lv_at hl 1 rfl) ?_
      refine va_get (D := D) (ci := 2) (v := .ref (c 12)) (C := RX2) (T := TX2) (N := 7) hx hb hts hiX20 hown hK.1 hP 14 rfl rfl 4 (by decide) f2 (fun _ h9 => h9) rfl dX1_areShared_37 ?_
      refine lv_iload_n hx hb dX1_areShared_40 rfl (lv_at hl 3 rfl) ?_
      refine x_iald hx hb hK hP 19 0 rfl rfl (k := y) (by omega) (by decide) dX1_areShared_41 ?_
      refine lv_icmp_ne (tgt := 64) hx hb dX1_areShared_42 (by decide) (fun c_42 => ?_) (fun c_42 => ?_)
      · refine lv_iconst (v := 0) hx hb dX1_areShared_64 (by decide) ?_
        exact r_zret hx hb hr hlk rfl ((bv_f (fun h => c_42 h.2.2.1)).symm) dX1_areShared_65
      · refine lv_aload_n hx hb dX1_areShared_45 rfl (lv_at hl 0 rfl) ?_
        refine va_get (D := D) (ci := 1) (v := .ref (c 16)) (C := RX1) (T := TX1) (N := 15) hx hb hts hiX10 hown hK.1 hP 0 rfl rfl 2 (by decide) f3 (fun _ h9 => h9) rfl dX1_areShared_46 ?_
        refine lv_iload_n hx hb dX1_areShared_49 rfl (lv_at hl 2 rfl) ?_
        refine x_iald hx hb hK hP 2 0 rfl rfl (k := x) (by omega) (by decide) dX1_areShared_50 ?_
        refine lv_aload_n hx hb dX1_areShared_51 rfl (lv_at hl 0 rfl) ?_
        refine va_get (D := D) (ci := 1) (v := .ref (c 16)) (C := RX1) (T := TX1) (N := 15) hx hb hts hiX10 hown hK.1 hP 0 rfl rfl 2 (by decide) f3 (fun _ h9 => h9) rfl dX1_areShared_52 ?_
        refine lv_iload_n hx hb dX1_areShared_55 rfl (lv_at hl 3 rfl) ?_
        refine x_iald hx hb hK hP 2 0 rfl rfl (k := y) (by omega) (by decide) dX1_areShared_56 ?_
        refine lv_icmp_eq (tgt := 64) hx hb dX1_areShared_57 (by decide) (fun c_57 => ?_) (fun c_57 => ?_)
        · refine lv_iconst (v := 0) hx hb dX1_areShared_64 (by decide) ?_
          exact r_zret hx hb hr hlk rfl ((bv_f (fun h => h.2.2.2 c_57)).symm) dX1_areShared_65
        · refine lv_iconst (v := 1) hx hb dX1_areShared_60 (by decide) ?_
          refine lv_goto (tgt := 65) hx hb dX1_areShared_61 (by decide) ?_
          exact r_zret hx hb hr hlk rfl ((bv_t ⟨c_12, c_27, c_42, c_57⟩).symm) dX1_areShared_65

set_option maxHeartbeats 4000000 in
set_option maxRecDepth 100000 in
theorem k1_lieOver (l0 : Launch) (D : va_G) (c : Nat → Nat) (cA cC : ClassId) (sl : Prop) (l1 l2 l3 l4 l5 : Nat → Int32) (C : Nat → Nat) (l7 l8 l9 l10 l11 l12 : Nat → Int32) (q0 q1 z1 : Nat) (w1 h1 : Int32) (O1 U1 : Prop) (d1 : Nat) (M1 : Nat → Nat) (q2 q3 z2 : Nat) (w2 h2 : Int32) (O2 U2 : Prop) (d2 : Nat) (M2 : Nat → Nat) (n : Nat) (a : Nat → Nat → Int32) (hz1 : z1 ≤ 60) (hz2 : z2 ≤ 60) (hM1 : ∀ i, i < z1 → M1 i < 60) (hM2 : ∀ i, i < z2 → M2 i < 60) : Met l0 yX1_lieOver wsX1_lieOver ({ frames := 1, cells := 0, slots := 0, locals := 23 }) (rPc D (lyW c cA cC sl l1 l2 l3 l4 l5 C l7 l8 l9 l10 l11 l12 ++ kW q0 q1 cA z1 w1 h1 O1 U1 d1 M1 ++ kW q2 q3 cA z2 w2 h2 O2 U2 d2 M2 ++ noW c cA n a) [(cA, .int), (cC, .object "StaffHeads$Chord")] [.ref (c 14), .ref (c 7), .ref q0, .ref q2]) (vp_Si (fun r => r = bv (cOver l1 l2 l3 (a 12) (a 11) z1 d1 M1 z2 d2 M2))) 0 0 (fun _ => False) := by
  refine r_head (C := RX1) (cc := cX1_lieOver) (maxL := 8) (ret := (some .boolean)) [(0, .ref (c 14)), (1, .ref (c 7)), (2, .ref q0), (3, .ref q2)] (by decide) rfl rfl (Nat.le_of_ble_eq_true rfl) rfl ?_
  intro p e s mi below meth cd hx hb hr hlk hml hown hts hP hK ls hl
  have hiX00 : ∀ w ∈ wsX00, w ∈ wsX1_lieOver := fun w h => List.mem_cons_of_mem _ (List.mem_append_left _ (List.mem_append_left _ (List.mem_append_right _ h)))
  have hiX10 : ∀ w ∈ wsX10, w ∈ wsX1_lieOver := fun w h => List.mem_cons_of_mem _ (List.mem_append_left _ (List.mem_append_right _ h))
  have f0 := hts (.fieldLink RX1 123 "StaffHeads$Chord" "size" "I") (List.mem_of_getElem? (i := 1) rfl)
  have f1 := hts (.fieldLink RX1 162 "StaffHeads$Chord" "heads" "[I") (List.mem_of_getElem? (i := 2) rfl)
  have f2 := hts (.fieldLink RX1 165 "StaffHeads$Chord" "moved" "I") (List.mem_of_getElem? (i := 3) rfl)
  have f3 := hts (.fieldLink RX1 22 "StaffHeads$Layout" "aside" "[I") (List.mem_of_getElem? (i := 4) rfl)
  have f4 := hts (.fieldLink RX1 15 "StaffHeads$Layout" "step" "[I") (List.mem_of_getElem? (i := 5) rfl)
  have f5 := hts (.methodLink RX1 175 Lib.Math.abs.name) (List.mem_of_getElem? (i := 6) rfl)
  have f6 := hts (.static Lib.Math.abs.name) (List.mem_of_getElem? (i := 7) rfl)
  have f7 := hts (.initialized "java/lang/Math") (List.mem_of_getElem? (i := 8) rfl)
  have f8 := hts (.code Lib.Math.abs.name Lib.Math.abs.code 1 (some .int)) (List.mem_of_getElem? (i := 9) rfl)
  have hK1 : kK D [(cA, .int)] s := ⟨hK.1.sub [0] rfl, hK.2⟩
  refine lv_iconst (v := 0) hx hb dX1_lieOver_0 (by decide) ?_
  refine x_tp (y := nI 0) nI_0.symm ?_
  refine lv_istore (lv' := [(4, .int (nI 0)), (0, .ref (c 14)), (1, .ref (c 7)), (2, .ref q0), (3, .ref q2)]) hx hb dX1_lieOver_1 hl (by decide) rfl (fun ls hl => ?_)
  refine lpR (G := fun ls => W p _ e _ s mi _ below meth cd _ _ _ _ _ (F0 mi 3 ls [])) 8 z1 (fun i (_ : Unit) => [(0, .ref (c 14)), (1, .ref (c 7)), (2, .ref q0), (3, .ref q2), (4, .int (nI i))]) (fun i _ => ∀ x, x < i → ∀ k, k < z2 → ¬ cPair l1 l2 l3 (a 12) (a 11) d1 d2 (M1 x) (M2 k)) ?_ 0 () (Nat.zero_le _) (fun x h => absurd h (Nat.not_lt_zero x)) (lv_sub hl [1, 2, 3, 4, 0] rfl)
  clear hl ls
  intro i gu hi hiI ls hl ihi
  refine lv_iload hx hb dX1_lieOver_3 (lv_at hl 4 rfl) ?_
  refine lv_aload_n hx hb dX1_lieOver_5 rfl (lv_at hl 2 rfl) ?_
  refine va_get (D := D) (ci := 0) (v := .int (nI z1)) (C := RX0) (T := TX0) (N := 7) hx hb hts hiX00 hown hK.1 hP 14 rfl rfl 1 (by decide) f0 (fun _ h9 => h9) rfl dX1_lieOver_6 ?_
  refine x_nge (tgt := 117) hx hb dX1_lieOver_9 (by decide) (by omega) (by omega) (fun c_9 => ?_) (fun c_9 => ?_)
  · obtain rfl : z1 = i := by omega
    refine lv_iconst (v := 0) hx hb dX1_lieOver_117 (by decide) ?_
    exact r_zret hx hb hr hlk rfl ((bv_f (fun h => h hiI)).symm) dX1_lieOver_118
  · have hM1i := hM1 i c_9
    refine lv_aload_n hx hb dX1_lieOver_12 rfl (lv_at hl 2 rfl) ?_
    refine va_get (D := D) (ci := 0) (v := .ref q1) (C := RX0) (T := TX0) (N := 7) hx hb hts hiX00 hown hK.1 hP 14 rfl rfl 0 (by decide) f1 (fun _ h9 => h9) rfl dX1_lieOver_13 ?_
    refine lv_iload hx hb dX1_lieOver_16 (lv_at hl 4 rfl) ?_
    refine x_iald hx hb hK hP 15 0 rfl rfl (k := i) (by omega) (by decide) dX1_lieOver_18 ?_
    refine lv_istore (lv' := [(5, .int (nI (M1 i))), (0, .ref (c 14)), (1, .ref (c 7)), (2, .ref q0), (3, .ref q2), (4, .int (nI i))]) hx hb dX1_lieOver_19 hl (by decide) rfl (fun ls hl => ?_)
    refine lv_iconst (v := 0) hx hb dX1_lieOver_21 (by decide) ?_
    refine x_tp (y := nI 0) nI_0.symm ?_
    refine lv_istore (lv' := [(6, .int (nI 0)), (5, .int (nI (M1 i))), (0, .ref (c 14)), (1, .ref (c 7)), (2, .ref q0), (3, .ref q2), (4, .int (nI i))]) hx hb dX1_lieOver_22 hl (by decide) rfl (fun ls hl => ?_)
    refine lpR (G := fun ls => W p _ e _ s mi _ below meth cd _ _ _ _ _ (F0 mi 24 ls [])) 8 z2 (fun k (_ : Unit) => [(0, .ref (c 14)), (1, .ref (c 7)), (2, .ref q0), (3, .ref q2), (4, .int (nI i)), (5, .int (nI (M1 i))), (6, .int (nI k))]) (fun k _ => ∀ x, x < k → ¬ cPair l1 l2 l3 (a 12) (a 11) d1 d2 (M1 i) (M2 x)) ?_ 0 () (Nat.zero_le _) (fun x h => absurd h (Nat.not_lt_zero x)) (lv_sub hl [2, 3, 4, 5, 6, 1, 0] rfl)
    clear hl ls
    intro k gu hk hkI ls hl ihk
    refine lv_iload hx hb dX1_lieOver_24 (lv_at hl 6 rfl) ?_
    refine lv_aload_n hx hb dX1_lieOver_26 rfl (lv_at hl 3 rfl) ?_
    refine va_get (D := D) (ci := 0) (v := .int (nI z2)) (C := RX0) (T := TX0) (N := 7) hx hb hts hiX00 hown hK.1 hP 16 rfl rfl 1 (by decide) f0 (fun _ h9 => h9) rfl dX1_lieOver_27 ?_
    refine x_nge (tgt := 111) hx hb dX1_lieOver_30 (by decide) (by omega) (by omega) (fun c_30 => ?_) (fun c_30 => ?_)
    · obtain rfl : z2 = k := by omega
      refine lv_iinc (v := nI (i + 1)) (lv' := [(4, .int (nI (i + 1))), (0, .ref (c 14)), (1, .ref (c 7)), (2, .ref q0), (3, .ref q2), (5, .int (nI (M1 i))), (6, .int (nI z2))]) hx hb dX1_lieOver_111 hl (k := 4) rfl (x_inc i) (by decide) rfl (fun ls hl => ?_)
      refine lv_goto (tgt := 3) hx hb dX1_lieOver_114 (by decide) ?_
      exact ihi (by omega) () _ (lt_s hiI hkI) (lv_sub hl [1, 2, 3, 4, 0] rfl)
    · have hM2k := hM2 k c_30
      refine lv_aload_n hx hb dX1_lieOver_33 rfl (lv_at hl 3 rfl) ?_
      refine va_get (D := D) (ci := 0) (v := .ref q3) (C := RX0) (T := TX0) (N := 7) hx hb hts hiX00 hown hK.1 hP 16 rfl rfl 0 (by decide) f1 (fun _ h9 => h9) rfl dX1_lieOver_34 ?_
      refine lv_iload hx hb dX1_lieOver_37 (lv_at hl 6 rfl) ?_
      refine x_iald hx hb hK hP 17 0 rfl rfl (k := k) (by omega) (by decide) dX1_lieOver_39 ?_
      refine lv_istore (lv' := [(7, .int (nI (M2 k))), (0, .ref (c 14)), (1, .ref (c 7)), (2, .ref q0), (3, .ref q2), (4, .int (nI i)), (5, .int (nI (M1 i))), (6, .int (nI k))]) hx hb dX1_lieOver_40 hl (by decide) rfl (fun ls hl => ?_)
      refine lv_aload_n hx hb dX1_lieOver_42 rfl (lv_at hl 3 rfl) ?_
      refine va_get (D := D) (ci := 0) (v := .int (nI d1)) (C := RX0) (T := TX0) (N := 7) hx hb hts hiX00 hown hK.1 hP 14 rfl rfl 6 (by decide) f2 (fun _ h9 => h9) rfl dX1_lieOver_43 ?_
      refine lv_aload_n hx hb dX1_lieOver_46 rfl (lv_at hl 1 rfl) ?_
      refine va_get (D := D) (ci := 1) (v := .ref (c 17)) (C := RX1) (T := TX1) (N := 15) hx hb hts hiX10 hown hK.1 hP 0 rfl rfl 3 (by decide) f3 (fun _ h9 => h9) rfl dX1_lieOver_47 ?_
      refine lv_iload hx hb dX1_lieOver_50 (lv_at hl 6 rfl) ?_
      refine x_iald hx hb hK hP 3 0 rfl rfl (k := (M1 i)) (by omega) (by decide) dX1_lieOver_52 ?_
      refine lv_iadd hx hb dX1_lieOver_53 ?_
      refine lv_aload_n hx hb dX1_lieOver_54 rfl (lv_at hl 4 rfl) ?_
      refine va_get (D := D) (ci := 0) (v := .int (nI d2)) (C := RX0) (T := TX0) (N := 7) hx hb hts hiX00 hown hK.1 hP 16 rfl rfl 6 (by decide) f2 (fun _ h9 => h9) rfl dX1_lieOver_55 ?_
      refine lv_aload_n hx hb dX1_lieOver_58 rfl (lv_at hl 1 rfl) ?_
      refine va_get (D := D) (ci := 1) (v := .ref (c 17)) (C := RX1) (T := TX1) (N := 15) hx hb hts hiX10 hown hK.1 hP 0 rfl rfl 3 (by decide) f3 (fun _ h9 => h9) rfl dX1_lieOver_59 ?_
      refine lv_iload hx hb dX1_lieOver_62 (lv_at hl 0 rfl) ?_
      refine x_iald hx hb hK hP 3 0 rfl rfl (k := (M2 k)) (by omega) (by decide) dX1_lieOver_64 ?_
      refine lv_iadd hx hb dX1_lieOver_65 ?_
      refine lv_icmp_ne (tgt := 105) hx hb dX1_lieOver_66 (by decide) (fun c_66 => ?_) (fun c_66 => ?_)
      · refine lv_iinc (v := nI (k + 1)) (lv' := [(6, .int (nI (k + 1))), (7, .int (nI (M2 k))), (0, .ref (c 14)), (1, .ref (c 7)), (2, .ref q0), (3, .ref q2), (4, .int (nI i)), (5, .int (nI (M1 i)))]) hx hb dX1_lieOver_105 hl (k := 7) rfl (x_inc k) (by decide) rfl (fun ls hl => ?_)
        refine lv_goto (tgt := 24) hx hb dX1_lieOver_108 (by decide) ?_
        exact ihk (by omega) () _ (lt_s hkI (fun h => c_66 h.1)) (lv_sub hl [2, 3, 4, 5, 6, 7, 0] rfl)
      · refine lv_aload_n hx hb dX1_lieOver_69 rfl (lv_at hl 1 rfl) ?_
        refine va_get (D := D) (ci := 1) (v := .ref (c 15)) (C := RX1) (T := TX1) (N := 15) hx hb hts hiX10 hown hK.1 hP 0 rfl rfl 1 (by decide) f4 (fun _ h9 => h9) rfl dX1_lieOver_70 ?_
        refine lv_iload hx hb dX1_lieOver_73 (lv_at hl 6 rfl) ?_
        refine x_iald hx hb hK hP 1 0 rfl rfl (k := (M1 i)) (by omega) (by decide) dX1_lieOver_75 ?_
        refine lv_aload_n hx hb dX1_lieOver_76 rfl (lv_at hl 1 rfl) ?_
        refine va_get (D := D) (ci := 1) (v := .ref (c 15)) (C := RX1) (T := TX1) (N := 15) hx hb hts hiX10 hown hK.1 hP 0 rfl rfl 1 (by decide) f4 (fun _ h9 => h9) rfl dX1_lieOver_77 ?_
        refine lv_iload hx hb dX1_lieOver_80 (lv_at hl 0 rfl) ?_
        refine x_iald hx hb hK hP 1 0 rfl rfl (k := (M2 k)) (by omega) (by decide) dX1_lieOver_82 ?_
        refine lv_isub hx hb dX1_lieOver_83 ?_
        refine va_mabs hx hb (hml.trans hl.1.symm) hown f5 f6 f7 f8 (Nat.le_of_ble_eq_true rfl) (Nat.le_of_ble_eq_true rfl) (Nat.zero_le _) (Nat.zero_le _) dX1_lieOver_84 ?_
        refine x_tp (y := absI (l1 (M1 i) - l1 (M2 k))) rfl ?_
        refine lv_iconst (v := 1) hx hb dX1_lieOver_87 (by decide) ?_
        refine lv_icmp_gt (tgt := 105) hx hb dX1_lieOver_88 (by decide) (fun c_88 => ?_) (fun c_88 => ?_)
        · refine lv_iinc (v := nI (k + 1)) (lv' := [(6, .int (nI (k + 1))), (7, .int (nI (M2 k))), (0, .ref (c 14)), (1, .ref (c 7)), (2, .ref q0), (3, .ref q2), (4, .int (nI i)), (5, .int (nI (M1 i)))]) hx hb dX1_lieOver_105 hl (k := 7) rfl (x_inc k) (by decide) rfl (fun ls hl => ?_)
          refine lv_goto (tgt := 24) hx hb dX1_lieOver_108 (by decide) ?_
          exact ihk (by omega) () _ (lt_s hkI (fun h => h.2.1 c_88)) (lv_sub hl [2, 3, 4, 5, 6, 7, 0] rfl)
        · refine lv_aload_n hx hb dX1_lieOver_91 rfl (lv_at hl 1 rfl) ?_
          refine lv_aload_n hx hb dX1_lieOver_92 rfl (lv_at hl 2 rfl) ?_
          refine lv_iload hx hb dX1_lieOver_93 (lv_at hl 6 rfl) ?_
          refine lv_iload hx hb dX1_lieOver_95 (lv_at hl 0 rfl) ?_
          refine rcVi (As := [.ref (c 7), .int (nI (M1 i)), .int (nI (M2 k))]) (rest := []) ⟨hx, hb, hml, hown, hts⟩ (k1_areShared l0 D c cA cC sl l1 l2 l3 l4 l5 C l7 l8 l9 l10 l11 l12 n a (M1 i) (M2 k) (by omega) (by omega)) (cwV 3 hts gX1_lieOver_X1_areShared rfl rfl rfl (by decide +kernel) ⟨Nat.le_of_ble_eq_true rfl, Nat.le_of_ble_eq_true rfl⟩) (va_recv hK.1 hP (ci := 1) (q0 := 0) rfl rfl) (hP.sub [0, 1, 2, 3, 4, 5, 6, 7, 8, 9, 10, 11, 12, 13, 18, 19, 20, 21, 22, 23, 24] rfl) hK rfl hl.1 rfl (Nat.le_of_ble_eq_true rfl) dX1_lieOver_97 ⟨Nat.zero_le _, Nat.zero_le _⟩ ?_
          refine x_ifne (tgt := 105) hx hb dX1_lieOver_100 (by decide) (fun (c_100 : cSh l1 l2 (a 12) (a 11) (M1 i) (M2 k)) => ?_) (fun (c_100 : ¬ (cSh l1 l2 (a 12) (a 11) (M1 i) (M2 k))) => ?_)
          · refine lv_iinc (v := nI (k + 1)) (lv' := [(6, .int (nI (k + 1))), (7, .int (nI (M2 k))), (0, .ref (c 14)), (1, .ref (c 7)), (2, .ref q0), (3, .ref q2), (4, .int (nI i)), (5, .int (nI (M1 i)))]) hx hb dX1_lieOver_105 hl (k := 7) rfl (x_inc k) (by decide) rfl (fun ls hl => ?_)
            refine lv_goto (tgt := 24) hx hb dX1_lieOver_108 (by decide) ?_
            exact ihk (by omega) () _ (lt_s hkI (fun h => h.2.2 c_100)) (lv_sub hl [2, 3, 4, 5, 6, 7, 0] rfl)
          · refine lv_iconst (v := 1) hx hb dX1_lieOver_103 (by decide) ?_
            exact r_zret hx hb hr hlk rfl ((bv_t (fun h => h i (by omega) k (by omega) ⟨c_66, c_88, c_100⟩)).symm) dX1_lieOver_104

set_option maxHeartbeats 4000000 in
set_option maxRecDepth 100000 in
theorem k1_lol1 (l0 : Launch) (D : va_G) (c : Nat → Nat) (cA cC : ClassId) (sl : Prop) (l1 l2 l3 l4 l5 : Nat → Int32) (C : Nat → Nat) (l7 l8 l9 l10 l11 l12 : Nat → Int32) (z : Nat → Nat) (lw hg : Nat → Int32) (O U : Nat → Prop) (mv : Nat → Nat) (M : Nat → Nat → Nat) (n : Nat) (a : Nat → Nat → Int32) (hz : ∀ v, z v ≤ 60) (hM : ∀ v i, i < z v → M v i < 60) : Met l0 yX1_liesOverLesser wsX1_liesOverLesser ({ frames := 2, cells := 0, slots := 0, locals := 50 }) (rPc D (lyW c cA cC sl l1 l2 l3 l4 l5 C l7 l8 l9 l10 l11 l12 ++ kW (c 28) (c 31) cA (z 0) (lw 0) (hg 0) (O 0) (U 0) (mv 0) (M 0) ++ kW (c 29) (c 32) cA (z 1) (lw 1) (hg 1) (O 1) (U 1) (mv 1) (M 1) ++ kW (c 30) (c 33) cA (z 2) (lw 2) (hg 2) (O 2) (U 2) (mv 2) (M 2) ++ noW c cA n a) [(cA, .int), (cC, .object "StaffHeads$Chord")] [.ref (c 14), .ref (c 7), .int (nI 1)]) (vp_Si (fun r => r = bv (cOver l1 l2 l3 (a 12) (a 11) (z 1) (mv 1) (M 1) (z 0) (mv 0) (M 0)))) 0 0 (fun _ => False) := by
  refine r_head (C := RX1) (cc := cX1_liesOverLesser) (maxL := 4) (ret := (some .boolean)) [(0, .ref (c 14)), (1, .ref (c 7)), (2, .int (nI 1))] (by decide) rfl rfl (Nat.le_of_ble_eq_true rfl) rfl ?_
  intro p e s mi below meth cd hx hb hr hlk hml hown hts hP hK ls hl
  have hiX10 : ∀ w ∈ wsX10, w ∈ wsX1_liesOverLesser := fun w h => List.mem_cons_of_mem _ (List.mem_append_left _ (List.mem_append_left _ (List.mem_append_right _ h)))
  have f0 := hts (.fieldLink RX1 55 "StaffHeads$Layout" "chords" "[LStaffHeads$Chord;") (List.mem_of_getElem? (i := 1) rfl)
  have hK1 : kK D [(cA, .int)] s := ⟨hK.1.sub [0] rfl, hK.2⟩
  refine lv_iconst (v := 0) hx hb dX1_liesOverLesser_0 (by decide) ?_
  refine x_tp (y := nI 0) nI_0.symm ?_
  refine lv_istore_n (lv' := [(3, .int (nI 0)), (0, .ref (c 14)), (1, .ref (c 7)), (2, .int (nI 1))]) hx hb dX1_liesOverLesser_1 rfl hl (by decide) rfl (fun ls hl => ?_)
  refine lv_iload_n hx hb dX1_liesOverLesser_2 rfl (lv_at hl 0 rfl) ?_
  refine lv_iload_n hx hb dX1_liesOverLesser_3 rfl (lv_at hl 3 rfl) ?_
  refine x_nge (tgt := 35) hx hb dX1_liesOverLesser_4 (by decide) (by omega) (by omega) (fun c_4 => ?_) (fun c_4 => ?_)
  · exact absurd c_4 (by decide)
  · refine lv_aload_n hx hb dX1_liesOverLesser_7 rfl (lv_at hl 1 rfl) ?_
    refine lv_aload_n hx hb dX1_liesOverLesser_8 rfl (lv_at hl 2 rfl) ?_
    refine lv_aload_n hx hb dX1_liesOverLesser_9 rfl (lv_at hl 1 rfl) ?_
    refine va_get (D := D) (ci := 1) (v := .ref (c 27)) (C := RX1) (T := TX1) (N := 15) hx hb hts hiX10 hown hK.1 hP 0 rfl rfl 13 (by decide) f0 (fun _ h9 => h9) rfl dX1_liesOverLesser_10 ?_
    refine lv_iload_n hx hb dX1_liesOverLesser_13 rfl (lv_at hl 3 rfl) ?_
    refine x_aald hx hb hK hP 13 1 rfl rfl (k := 1) (by decide) (by decide) dX1_liesOverLesser_14 ?_
    refine x_tpr (y := c 29) rfl ?_
    refine lv_aload_n hx hb dX1_liesOverLesser_15 rfl (lv_at hl 1 rfl) ?_
    refine va_get (D := D) (ci := 1) (v := .ref (c 27)) (C := RX1) (T := TX1) (N := 15) hx hb hts hiX10 hown hK.1 hP 0 rfl rfl 13 (by decide) f0 (fun _ h9 => h9) rfl dX1_liesOverLesser_16 ?_
    refine lv_iload_n hx hb dX1_liesOverLesser_19 rfl (lv_at hl 0 rfl) ?_
    refine x_aald hx hb hK hP 13 1 rfl rfl (k := 0) (by decide) (by decide) dX1_liesOverLesser_20 ?_
    refine x_tpr (y := c 28) rfl ?_
    refine rcVi (As := [.ref (c 7), .ref (c 29), .ref (c 28)]) (rest := []) ⟨hx, hb, hml, hown, hts⟩ (k1_lieOver l0 D c cA cC sl l1 l2 l3 l4 l5 C l7 l8 l9 l10 l11 l12 (c 29) (c 32) (z 1) (lw 1) (hg 1) (O 1) (U 1) (mv 1) (M 1) (c 28) (c 31) (z 0) (lw 0) (hg 0) (O 0) (U 0) (mv 0) (M 0) n a (hz 1) (hz 0) (hM 1) (hM 0)) (cwV 3 hts gX1_liesOverLesser_X1_lieOver rfl rfl rfl (by decide +kernel) ⟨Nat.le_of_ble_eq_true rfl, Nat.le_of_ble_eq_true rfl⟩) (va_recv hK.1 hP (ci := 1) (q0 := 0) rfl rfl) (hP.sub [0, 1, 2, 3, 4, 5, 6, 7, 8, 9, 10, 11, 12, 13, 16, 17, 14, 15, 20, 21, 22, 23, 24, 25, 26] rfl) hK rfl hl.1 rfl (Nat.le_of_ble_eq_true rfl) dX1_liesOverLesser_21 ⟨Nat.zero_le _, Nat.zero_le _⟩ ?_
    refine x_ifeq (tgt := 29) hx hb dX1_liesOverLesser_24 (by decide) (fun (c_24 : ¬ (cOver l1 l2 l3 (a 12) (a 11) (z 1) (mv 1) (M 1) (z 0) (mv 0) (M 0))) => ?_) (fun (c_24 : cOver l1 l2 l3 (a 12) (a 11) (z 1) (mv 1) (M 1) (z 0) (mv 0) (M 0)) => ?_)
    · have c24_0 := c_24
      refine lv_iinc (v := nI 1) (lv' := [(3, .int (nI 1)), (0, .ref (c 14)), (1, .ref (c 7)), (2, .int (nI 1))]) hx hb dX1_liesOverLesser_29 hl (k := 0) rfl (x_inc 0) (by decide) rfl (fun ls hl => ?_)
      refine lv_goto (tgt := 2) hx hb dX1_liesOverLesser_32 (by decide) ?_
      refine lv_iload_n hx hb dX1_liesOverLesser_2 rfl (lv_at hl 0 rfl) ?_
      refine lv_iload_n hx hb dX1_liesOverLesser_3 rfl (lv_at hl 3 rfl) ?_
      refine x_nge (tgt := 35) hx hb dX1_liesOverLesser_4 (by decide) (by omega) (by omega) (fun c_4 => ?_) (fun c_4 => ?_)
      · refine lv_iconst (v := 0) hx hb dX1_liesOverLesser_35 (by decide) ?_
        exact r_zret hx hb hr hlk rfl ((bv_f c24_0).symm) dX1_liesOverLesser_36
      · exact absurd c_4 (by decide)
    · have c24_0 := c_24
      refine lv_iconst (v := 1) hx hb dX1_liesOverLesser_27 (by decide) ?_
      exact r_zret hx hb hr hlk rfl ((bv_t c24_0).symm) dX1_liesOverLesser_28

set_option maxHeartbeats 4000000 in
set_option maxRecDepth 100000 in
theorem k1_lol2 (l0 : Launch) (D : va_G) (c : Nat → Nat) (cA cC : ClassId) (sl : Prop) (l1 l2 l3 l4 l5 : Nat → Int32) (C : Nat → Nat) (l7 l8 l9 l10 l11 l12 : Nat → Int32) (z : Nat → Nat) (lw hg : Nat → Int32) (O U : Nat → Prop) (mv : Nat → Nat) (M : Nat → Nat → Nat) (n : Nat) (a : Nat → Nat → Int32) (hz : ∀ v, z v ≤ 60) (hM : ∀ v i, i < z v → M v i < 60) : Met l0 yX1_liesOverLesser wsX1_liesOverLesser ({ frames := 2, cells := 0, slots := 0, locals := 50 }) (rPc D (lyW c cA cC sl l1 l2 l3 l4 l5 C l7 l8 l9 l10 l11 l12 ++ kW (c 28) (c 31) cA (z 0) (lw 0) (hg 0) (O 0) (U 0) (mv 0) (M 0) ++ kW (c 29) (c 32) cA (z 1) (lw 1) (hg 1) (O 1) (U 1) (mv 1) (M 1) ++ kW (c 30) (c 33) cA (z 2) (lw 2) (hg 2) (O 2) (U 2) (mv 2) (M 2) ++ noW c cA n a) [(cA, .int), (cC, .object "StaffHeads$Chord")] [.ref (c 14), .ref (c 7), .int (nI 2)]) (vp_Si (fun r => r = bv (cOver l1 l2 l3 (a 12) (a 11) (z 2) (mv 2) (M 2) (z 0) (mv 0) (M 0) ∨ cOver l1 l2 l3 (a 12) (a 11) (z 2) (mv 2) (M 2) (z 1) (mv 1) (M 1)))) 0 0 (fun _ => False) := by
  refine r_head (C := RX1) (cc := cX1_liesOverLesser) (maxL := 4) (ret := (some .boolean)) [(0, .ref (c 14)), (1, .ref (c 7)), (2, .int (nI 2))] (by decide) rfl rfl (Nat.le_of_ble_eq_true rfl) rfl ?_
  intro p e s mi below meth cd hx hb hr hlk hml hown hts hP hK ls hl
  have hiX10 : ∀ w ∈ wsX10, w ∈ wsX1_liesOverLesser := fun w h => List.mem_cons_of_mem _ (List.mem_append_left _ (List.mem_append_left _ (List.mem_append_right _ h)))
  have f0 := hts (.fieldLink RX1 55 "StaffHeads$Layout" "chords" "[LStaffHeads$Chord;") (List.mem_of_getElem? (i := 1) rfl)
  have hK1 : kK D [(cA, .int)] s := ⟨hK.1.sub [0] rfl, hK.2⟩
  refine lv_iconst (v := 0) hx hb dX1_liesOverLesser_0 (by decide) ?_
  refine x_tp (y := nI 0) nI_0.symm ?_
  refine lv_istore_n (lv' := [(3, .int (nI 0)), (0, .ref (c 14)), (1, .ref (c 7)), (2, .int (nI 2))]) hx hb dX1_liesOverLesser_1 rfl hl (by decide) rfl (fun ls hl => ?_)
  refine lv_iload_n hx hb dX1_liesOverLesser_2 rfl (lv_at hl 0 rfl) ?_
  refine lv_iload_n hx hb dX1_liesOverLesser_3 rfl (lv_at hl 3 rfl) ?_
  refine x_nge (tgt := 35) hx hb dX1_liesOverLesser_4 (by decide) (by omega) (by omega) (fun c_4 => ?_) (fun c_4 => ?_)
  · exact absurd c_4 (by decide)
  · refine lv_aload_n hx hb dX1_liesOverLesser_7 rfl (lv_at hl 1 rfl) ?_
    refine lv_aload_n hx hb dX1_liesOverLesser_8 rfl (lv_at hl 2 rfl) ?_
    refine lv_aload_n hx hb dX1_liesOverLesser_9 rfl (lv_at hl 1 rfl) ?_
    refine va_get (D := D) (ci := 1) (v := .ref (c 27)) (C := RX1) (T := TX1) (N := 15) hx hb hts hiX10 hown hK.1 hP 0 rfl rfl 13 (by decide) f0 (fun _ h9 => h9) rfl dX1_liesOverLesser_10 ?_
    refine lv_iload_n hx hb dX1_liesOverLesser_13 rfl (lv_at hl 3 rfl) ?_
    refine x_aald hx hb hK hP 13 1 rfl rfl (k := 2) (by decide) (by decide) dX1_liesOverLesser_14 ?_
    refine x_tpr (y := c 30) rfl ?_
    refine lv_aload_n hx hb dX1_liesOverLesser_15 rfl (lv_at hl 1 rfl) ?_
    refine va_get (D := D) (ci := 1) (v := .ref (c 27)) (C := RX1) (T := TX1) (N := 15) hx hb hts hiX10 hown hK.1 hP 0 rfl rfl 13 (by decide) f0 (fun _ h9 => h9) rfl dX1_liesOverLesser_16 ?_
    refine lv_iload_n hx hb dX1_liesOverLesser_19 rfl (lv_at hl 0 rfl) ?_
    refine x_aald hx hb hK hP 13 1 rfl rfl (k := 0) (by decide) (by decide) dX1_liesOverLesser_20 ?_
    refine x_tpr (y := c 28) rfl ?_
    refine rcVi (As := [.ref (c 7), .ref (c 30), .ref (c 28)]) (rest := []) ⟨hx, hb, hml, hown, hts⟩ (k1_lieOver l0 D c cA cC sl l1 l2 l3 l4 l5 C l7 l8 l9 l10 l11 l12 (c 30) (c 33) (z 2) (lw 2) (hg 2) (O 2) (U 2) (mv 2) (M 2) (c 28) (c 31) (z 0) (lw 0) (hg 0) (O 0) (U 0) (mv 0) (M 0) n a (hz 2) (hz 0) (hM 2) (hM 0)) (cwV 3 hts gX1_liesOverLesser_X1_lieOver rfl rfl rfl (by decide +kernel) ⟨Nat.le_of_ble_eq_true rfl, Nat.le_of_ble_eq_true rfl⟩) (va_recv hK.1 hP (ci := 1) (q0 := 0) rfl rfl) (hP.sub [0, 1, 2, 3, 4, 5, 6, 7, 8, 9, 10, 11, 12, 13, 18, 19, 14, 15, 20, 21, 22, 23, 24, 25, 26] rfl) hK rfl hl.1 rfl (Nat.le_of_ble_eq_true rfl) dX1_liesOverLesser_21 ⟨Nat.zero_le _, Nat.zero_le _⟩ ?_
    refine x_ifeq (tgt := 29) hx hb dX1_liesOverLesser_24 (by decide) (fun (c_24 : ¬ (cOver l1 l2 l3 (a 12) (a 11) (z 2) (mv 2) (M 2) (z 0) (mv 0) (M 0))) => ?_) (fun (c_24 : cOver l1 l2 l3 (a 12) (a 11) (z 2) (mv 2) (M 2) (z 0) (mv 0) (M 0)) => ?_)
    · have c24_0 := c_24
      refine lv_iinc (v := nI 1) (lv' := [(3, .int (nI 1)), (0, .ref (c 14)), (1, .ref (c 7)), (2, .int (nI 2))]) hx hb dX1_liesOverLesser_29 hl (k := 0) rfl (x_inc 0) (by decide) rfl (fun ls hl => ?_)
      refine lv_goto (tgt := 2) hx hb dX1_liesOverLesser_32 (by decide) ?_
      refine lv_iload_n hx hb dX1_liesOverLesser_2 rfl (lv_at hl 0 rfl) ?_
      refine lv_iload_n hx hb dX1_liesOverLesser_3 rfl (lv_at hl 3 rfl) ?_
      refine x_nge (tgt := 35) hx hb dX1_liesOverLesser_4 (by decide) (by omega) (by omega) (fun c_4 => ?_) (fun c_4 => ?_)
      · exact absurd c_4 (by decide)
      · refine lv_aload_n hx hb dX1_liesOverLesser_7 rfl (lv_at hl 1 rfl) ?_
        refine lv_aload_n hx hb dX1_liesOverLesser_8 rfl (lv_at hl 2 rfl) ?_
        refine lv_aload_n hx hb dX1_liesOverLesser_9 rfl (lv_at hl 1 rfl) ?_
        refine va_get (D := D) (ci := 1) (v := .ref (c 27)) (C := RX1) (T := TX1) (N := 15) hx hb hts hiX10 hown hK.1 hP 0 rfl rfl 13 (by decide) f0 (fun _ h9 => h9) rfl dX1_liesOverLesser_10 ?_
        refine lv_iload_n hx hb dX1_liesOverLesser_13 rfl (lv_at hl 3 rfl) ?_
        refine x_aald hx hb hK hP 13 1 rfl rfl (k := 2) (by decide) (by decide) dX1_liesOverLesser_14 ?_
        refine x_tpr (y := c 30) rfl ?_
        refine lv_aload_n hx hb dX1_liesOverLesser_15 rfl (lv_at hl 1 rfl) ?_
        refine va_get (D := D) (ci := 1) (v := .ref (c 27)) (C := RX1) (T := TX1) (N := 15) hx hb hts hiX10 hown hK.1 hP 0 rfl rfl 13 (by decide) f0 (fun _ h9 => h9) rfl dX1_liesOverLesser_16 ?_
        refine lv_iload_n hx hb dX1_liesOverLesser_19 rfl (lv_at hl 0 rfl) ?_
        refine x_aald hx hb hK hP 13 1 rfl rfl (k := 1) (by decide) (by decide) dX1_liesOverLesser_20 ?_
        refine x_tpr (y := c 29) rfl ?_
        refine rcVi (As := [.ref (c 7), .ref (c 30), .ref (c 29)]) (rest := []) ⟨hx, hb, hml, hown, hts⟩ (k1_lieOver l0 D c cA cC sl l1 l2 l3 l4 l5 C l7 l8 l9 l10 l11 l12 (c 30) (c 33) (z 2) (lw 2) (hg 2) (O 2) (U 2) (mv 2) (M 2) (c 29) (c 32) (z 1) (lw 1) (hg 1) (O 1) (U 1) (mv 1) (M 1) n a (hz 2) (hz 1) (hM 2) (hM 1)) (cwV 3 hts gX1_liesOverLesser_X1_lieOver rfl rfl rfl (by decide +kernel) ⟨Nat.le_of_ble_eq_true rfl, Nat.le_of_ble_eq_true rfl⟩) (va_recv hK.1 hP (ci := 1) (q0 := 0) rfl rfl) (hP.sub [0, 1, 2, 3, 4, 5, 6, 7, 8, 9, 10, 11, 12, 13, 18, 19, 16, 17, 20, 21, 22, 23, 24, 25, 26] rfl) hK rfl hl.1 rfl (Nat.le_of_ble_eq_true rfl) dX1_liesOverLesser_21 ⟨Nat.zero_le _, Nat.zero_le _⟩ ?_
        refine x_ifeq (tgt := 29) hx hb dX1_liesOverLesser_24 (by decide) (fun (c_24 : ¬ (cOver l1 l2 l3 (a 12) (a 11) (z 2) (mv 2) (M 2) (z 1) (mv 1) (M 1))) => ?_) (fun (c_24 : cOver l1 l2 l3 (a 12) (a 11) (z 2) (mv 2) (M 2) (z 1) (mv 1) (M 1)) => ?_)
        · have c24_1 := c_24
          refine lv_iinc (v := nI 2) (lv' := [(3, .int (nI 2)), (0, .ref (c 14)), (1, .ref (c 7)), (2, .int (nI 2))]) hx hb dX1_liesOverLesser_29 hl (k := 0) rfl (x_inc 1) (by decide) rfl (fun ls hl => ?_)
          refine lv_goto (tgt := 2) hx hb dX1_liesOverLesser_32 (by decide) ?_
          refine lv_iload_n hx hb dX1_liesOverLesser_2 rfl (lv_at hl 0 rfl) ?_
          refine lv_iload_n hx hb dX1_liesOverLesser_3 rfl (lv_at hl 3 rfl) ?_
          refine x_nge (tgt := 35) hx hb dX1_liesOverLesser_4 (by decide) (by omega) (by omega) (fun c_4 => ?_) (fun c_4 => ?_)
          · refine lv_iconst (v := 0) hx hb dX1_liesOverLesser_35 (by decide) ?_
            exact r_zret hx hb hr hlk rfl ((bv_f (fun h => h.elim c24_0 c24_1)).symm) dX1_liesOverLesser_36
          · exact absurd c_4 (by decide)
        · have c24_1 := c_24
          refine lv_iconst (v := 1) hx hb dX1_liesOverLesser_27 (by decide) ?_
          exact r_zret hx hb hr hlk rfl ((bv_t (Or.inr c24_1)).symm) dX1_liesOverLesser_28
    · have c24_0 := c_24
      refine lv_iconst (v := 1) hx hb dX1_liesOverLesser_27 (by decide) ?_
      exact r_zret hx hb hr hlk rfl ((bv_t (Or.inl c24_0)).symm) dX1_liesOverLesser_28
