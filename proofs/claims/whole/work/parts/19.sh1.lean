set_option maxHeartbeats 4000000 in
set_option maxRecDepth 100000 in
theorem k5_isHidden (l0 : Launch) (D : va_G) (c : Nat → Nat) (cA cC : ClassId) (u : Nat → Int32) (n : Nat) (a : Nat → Nat → Int32) (j : Nat) (hn : n ≤ 60) (hj : j < 4) : Met l0 yX5_isHidden wsX5_isHidden ({ frames := 1, cells := 0, slots := 0, locals := 22 }) (rPc D (shW c u ++ noW c cA n a) [(cA, .int), (cC, .object "StaffHeads$Chord")] [.ref (c 0), .int (nI j)]) (vp_Si (fun r => r = bv (rHidA (a 7) (u 4) (nI j) n))) 0 0 (fun _ => False) := by
  refine r_head (C := RX5) (cc := cX5_isHidden) (maxL := 2) (ret := (some .boolean)) [(0, .ref (c 0)), (1, .int (nI j))] (by decide) rfl rfl (Nat.le_of_ble_eq_true rfl) rfl ?_
  intro p e s mi below meth cd hx hb hr hlk hml hown hts hP hK ls hl
  have hiX50 : ∀ w ∈ wsX50, w ∈ wsX5_isHidden := fun w h => List.mem_cons_of_mem _ (List.mem_append_left _ (List.mem_append_right _ h))
  have f0 := hts (.fieldLink RX5 37 "StaffHeads" "hiding" "Z") (List.mem_of_getElem? (i := 1) rfl)
  have f1 := hts (.fieldLink RX5 19 "StaffHeads" "notes" "LStaffHeads$Notes;") (List.mem_of_getElem? (i := 2) rfl)
  have hK1 : kK D [(cA, .int)] s := ⟨hK.1.sub [0] rfl, hK.2⟩
  refine lv_aload_n hx hb dX5_isHidden_0 rfl (lv_at hl 0 rfl) ?_
  refine va_get (D := D) (ci := 5) (v := .int (u 4)) (C := RX5) (T := TX5) (N := 7) hx hb hts hiX50 hown hK.1 hP 0 rfl rfl 6 (by decide) f0 (fun _ h9 => h9) rfl dX5_isHidden_1 ?_
  refine lv_if_eq (tgt := 26) hx hb dX5_isHidden_4 (by decide) (fun c_4 => ?_) (fun c_4 => ?_)
  · refine lv_iconst (v := 0) hx hb dX5_isHidden_26 (by decide) ?_
    exact r_zret hx hb hr hlk rfl ((bv_f (fun h => h.1.1 c_4)).symm) dX5_isHidden_27
  · refine lv_iload_n hx hb dX5_isHidden_7 rfl (lv_at hl 1 rfl) ?_
    refine lv_if_eq (tgt := 26) hx hb dX5_isHidden_8 (by decide) (fun c_8 => ?_) (fun c_8 => ?_)
    · refine lv_iconst (v := 0) hx hb dX5_isHidden_26 (by decide) ?_
      exact r_zret hx hb hr hlk rfl ((bv_f (fun h => (nI_pos_ne (by omega)).mpr h.1.2 c_8)).symm) dX5_isHidden_27
    · refine lv_aload_n hx hb dX5_isHidden_11 rfl (lv_at hl 0 rfl) ?_
      refine va_get (D := D) (ci := 5) (v := .ref (c 7)) (C := RX5) (T := TX5) (N := 7) hx hb hts hiX50 hown hK.1 hP 0 rfl rfl 2 (by decide) f1 (fun _ h9 => h9) rfl dX5_isHidden_12 ?_
      refine lv_iload_n hx hb dX5_isHidden_15 rfl (lv_at hl 1 rfl) ?_
      refine rcVi (As := [.int (nI j)]) (rest := []) ⟨hx, hb, hml, hown, hts⟩ (k2_anyOn l0 D c cA n a (nI j) (by omega)) (cwV 1 hts gX5_isHidden_X2_anyOn rfl rfl rfl (by decide +kernel) ⟨Nat.le_of_ble_eq_true rfl, Nat.le_of_ble_eq_true rfl⟩) (va_recv hK.1 hP (ci := 2) (q0 := 1) rfl rfl) (hP.sub [1, 2, 3, 4, 5, 6, 7] rfl) hK1 rfl hl.1 rfl (Nat.le_of_ble_eq_true rfl) dX5_isHidden_16 ⟨Nat.zero_le _, Nat.zero_le _⟩ ?_
      refine x_ifne (tgt := 26) hx hb dX5_isHidden_19 (by decide) (fun (c_19 : ¬ ∀ q, q < n → ¬ a 7 q = (nI j)) => ?_) (fun (c_19 : ¬ (¬ ∀ q, q < n → ¬ a 7 q = (nI j))) => ?_)
      · refine lv_iconst (v := 0) hx hb dX5_isHidden_26 (by decide) ?_
        exact r_zret hx hb hr hlk rfl ((bv_f (fun h => c_19 h.2)).symm) dX5_isHidden_27
      · refine lv_iconst (v := 1) hx hb dX5_isHidden_22 (by decide) ?_
        refine lv_goto (tgt := 27) hx hb dX5_isHidden_23 (by decide) ?_
        exact r_zret hx hb hr hlk rfl ((bv_t ⟨⟨c_4, (nI_pos_ne (by omega)).mp c_8⟩, Classical.not_not.mp c_19⟩).symm) dX5_isHidden_27

set_option maxHeartbeats 4000000 in
set_option maxRecDepth 100000 in
theorem k5_shownStaves (l0 : Launch) (D : va_G) (c : Nat → Nat) (cA cC : ClassId) (u : Nat → Int32) (n : Nat) (a : Nat → Nat → Int32) (hn : n ≤ 60) : Met l0 yX5_shownStaves wsX5_shownStaves ({ frames := 2, cells := 0, slots := 0, locals := 43 }) (rPc D (shW c u ++ noW c cA n a) [(cA, .int), (cC, .object "StaffHeads$Chord")] [.ref (c 0)]) (vp_Si (fun r => r = nI (rShown (a 7) (u 4) n 4))) 0 0 (fun _ => False) := by
  refine r_head (C := RX5) (cc := cX5_shownStaves) (maxL := 3) (ret := (some .int)) [(0, .ref (c 0))] (by decide) rfl rfl (Nat.le_of_ble_eq_true rfl) rfl ?_
  intro p e s mi below meth cd hx hb hr hlk hml hown hts hP hK ls hl
  have hK1 : kK D [(cA, .int)] s := ⟨hK.1.sub [0] rfl, hK.2⟩
  refine lv_iconst (v := 0) hx hb dX5_shownStaves_0 (by decide) ?_
  refine x_tp (y := nI (rShown (a 7) (u 4) n 0)) (show (0 : Int32) = nI 0 from rfl) ?_
  refine lv_istore_n (lv' := [(1, .int (nI (rShown (a 7) (u 4) n 0))), (0, .ref (c 0))]) hx hb dX5_shownStaves_1 rfl hl (by decide) rfl (fun ls hl => ?_)
  refine lv_iconst (v := 0) hx hb dX5_shownStaves_2 (by decide) ?_
  refine x_tp (y := nI 0) nI_0.symm ?_
  refine lv_istore_n (lv' := [(2, .int (nI 0)), (1, .int (nI (rShown (a 7) (u 4) n 0))), (0, .ref (c 0))]) hx hb dX5_shownStaves_3 rfl hl (by decide) rfl (fun ls hl => ?_)
  refine lpR (G := fun ls => W p _ e _ s mi _ below meth cd _ _ _ _ _ (F0 mi 4 ls [])) 3 4 (fun k (_ : Unit) => [(0, .ref (c 0)), (1, .int (nI (rShown (a 7) (u 4) n k))), (2, .int (nI k))]) (fun _ _ => True) ?_ 0 () (Nat.zero_le _) trivial (lv_sub hl [2, 1, 0] rfl)
  clear hl ls
  intro k gu hk hkI ls hl ihk
  refine lv_iload_n hx hb dX5_shownStaves_4 rfl (lv_at hl 2 rfl) ?_
  refine lv_iconst (v := 4) hx hb dX5_shownStaves_5 (by decide) ?_
  refine x_tp (y := nI 4) (show (4 : Int32) = nI 4 from rfl) ?_
  refine x_nge (tgt := 31) hx hb dX5_shownStaves_6 (by decide) (by omega) (by omega) (fun c_6 => ?_) (fun c_6 => ?_)
  · obtain rfl : 4 = k := by omega
    refine lv_iload_n hx hb dX5_shownStaves_31 rfl (lv_at hl 1 rfl) ?_
    exact r_iret hx hb hr hlk (rfl) dX5_shownStaves_32
  · refine lv_iload_n hx hb dX5_shownStaves_9 rfl (lv_at hl 1 rfl) ?_
    refine lv_aload_n hx hb dX5_shownStaves_10 rfl (lv_at hl 0 rfl) ?_
    refine lv_iload_n hx hb dX5_shownStaves_11 rfl (lv_at hl 2 rfl) ?_
    refine rcVi (As := [.int (nI k)]) (rest := [.int (nI (rShown (a 7) (u 4) n k))]) ⟨hx, hb, hml, hown, hts⟩ (k5_isHidden l0 D c cA cC u n a k (by omega) (by omega)) (cwV 1 hts gX5_shownStaves_X5_isHidden rfl rfl rfl (by decide +kernel) ⟨Nat.le_of_ble_eq_true rfl, Nat.le_of_ble_eq_true rfl⟩) (va_recv hK.1 hP (ci := 5) (q0 := 0) rfl rfl) hP hK rfl hl.1 rfl (Nat.le_of_ble_eq_true rfl) dX5_shownStaves_12 ⟨Nat.zero_le _, Nat.zero_le _⟩ ?_
    refine x_ifeq (tgt := 22) hx hb dX5_shownStaves_15 (by decide) (fun (c_15 : ¬ (rHidA (a 7) (u 4) (nI k) n)) => ?_) (fun (c_15 : rHidA (a 7) (u 4) (nI k) n) => ?_)
    · refine lv_iconst (v := 1) hx hb dX5_shownStaves_22 (by decide) ?_
      refine lv_iadd hx hb dX5_shownStaves_23 ?_
      refine x_tp (y := nI (rShown (a 7) (u 4) n (k + 1))) (by rw [rShown, if_neg c_15]; exact nI_1 _) ?_
      refine lv_istore_n (lv' := [(1, .int (nI (rShown (a 7) (u 4) n (k + 1)))), (0, .ref (c 0)), (2, .int (nI k))]) hx hb dX5_shownStaves_24 rfl hl (by decide) rfl (fun ls hl => ?_)
      refine lv_iinc (v := nI (k + 1)) (lv' := [(2, .int (nI (k + 1))), (1, .int (nI (rShown (a 7) (u 4) n (k + 1)))), (0, .ref (c 0))]) hx hb dX5_shownStaves_25 hl (k := 2) rfl (x_inc k) (by decide) rfl (fun ls hl => ?_)
      refine lv_goto (tgt := 4) hx hb dX5_shownStaves_28 (by decide) ?_
      exact ihk (by omega) () _ trivial (lv_sub hl [2, 1, 0] rfl)
    · refine lv_iconst (v := 0) hx hb dX5_shownStaves_18 (by decide) ?_
      refine lv_goto (tgt := 23) hx hb dX5_shownStaves_19 (by decide) ?_
      refine lv_iadd hx hb dX5_shownStaves_23 ?_
      refine x_tp (y := nI (rShown (a 7) (u 4) n (k + 1))) (by rw [rShown, if_pos c_15]; exact Int32.add_zero _) ?_
      refine lv_istore_n (lv' := [(1, .int (nI (rShown (a 7) (u 4) n (k + 1)))), (0, .ref (c 0)), (2, .int (nI k))]) hx hb dX5_shownStaves_24 rfl hl (by decide) rfl (fun ls hl => ?_)
      refine lv_iinc (v := nI (k + 1)) (lv' := [(2, .int (nI (k + 1))), (1, .int (nI (rShown (a 7) (u 4) n (k + 1)))), (0, .ref (c 0))]) hx hb dX5_shownStaves_25 hl (k := 2) rfl (x_inc k) (by decide) rfl (fun ls hl => ?_)
      refine lv_goto (tgt := 4) hx hb dX5_shownStaves_28 (by decide) ?_
      exact ihk (by omega) () _ trivial (lv_sub hl [2, 1, 0] rfl)

set_option maxHeartbeats 4000000 in
set_option maxRecDepth 100000 in
theorem k5_shownAbove (l0 : Launch) (D : va_G) (c : Nat → Nat) (cA cC : ClassId) (u : Nat → Int32) (n : Nat) (a : Nat → Nat → Int32) (j : Nat) (hn : n ≤ 60) (hj : j < 3) : Met l0 yX5_shownAbove wsX5_shownAbove ({ frames := 2, cells := 0, slots := 0, locals := 43 }) (rPc D (shW c u ++ noW c cA n a) [(cA, .int), (cC, .object "StaffHeads$Chord")] [.ref (c 0), .int (nI (j + 1))]) (vp_Si (fun r => r = nI (rUpr (a 7) (u 4) n j))) 0 0 (fun _ => False) := by
  refine r_head (C := RX5) (cc := cX5_shownAbove) (maxL := 3) (ret := (some .int)) [(0, .ref (c 0)), (1, .int (nI (j + 1)))] (by decide) rfl rfl (Nat.le_of_ble_eq_true rfl) rfl ?_
  intro p e s mi below meth cd hx hb hr hlk hml hown hts hP hK ls hl
  have hK1 : kK D [(cA, .int)] s := ⟨hK.1.sub [0] rfl, hK.2⟩
  refine lv_iload_n hx hb dX5_shownAbove_0 rfl (lv_at hl 1 rfl) ?_
  refine lv_iconst (v := 1) hx hb dX5_shownAbove_1 (by decide) ?_
  refine lv_isub hx hb dX5_shownAbove_2 ?_
  refine x_tp (y := nI j) (nI_pred j) ?_
  refine lv_istore_n (lv' := [(2, .int (nI j)), (0, .ref (c 0)), (1, .int (nI (j + 1)))]) hx hb dX5_shownAbove_3 rfl hl (by decide) rfl (fun ls hl => ?_)
  refine lpR (G := fun ls => W p _ e _ s mi _ below meth cd _ _ _ _ _ (F0 mi 4 ls [])) 3 j (fun i (g : Nat) => [(0, .ref (c 0)), (1, .int (nI (j + 1))), (2, .int (nI g))]) (fun i g => g + i = j ∧ rUpr (a 7) (u 4) n g = rUpr (a 7) (u 4) n j) ?_ 0 j (Nat.zero_le _) ⟨rfl, rfl⟩ (lv_sub hl [1, 2, 0] rfl)
  clear hl ls
  intro i g hi hiI ls hl ihi
  obtain ⟨hg1, hg2⟩ := hiI
  refine lv_iload_n hx hb dX5_shownAbove_4 rfl (lv_at hl 2 rfl) ?_
  refine x_cle (tgt := 22) hx hb dX5_shownAbove_5 (by decide) (fun c_5 => ?_) (fun c_5 => ?_)
  · have hg0 : g = 0 := Nat.eq_zero_of_not_pos (fun h => c_5 ((nI_pos0 (by omega)).mpr h))
    have hge : g = rUpr (a 7) (u 4) n j := by rw [← hg2, hg0]; rfl
    refine lv_iload_n hx hb dX5_shownAbove_22 rfl (lv_at hl 2 rfl) ?_
    exact r_iret hx hb hr hlk (by rw [hge]) dX5_shownAbove_23
  · have c_5 : 0 < g := (nI_pos0 (by omega)).mp c_5
    refine lv_aload_n hx hb dX5_shownAbove_8 rfl (lv_at hl 0 rfl) ?_
    refine lv_iload_n hx hb dX5_shownAbove_9 rfl (lv_at hl 2 rfl) ?_
    refine rcVi (As := [.int (nI g)]) (rest := []) ⟨hx, hb, hml, hown, hts⟩ (k5_isHidden l0 D c cA cC u n a g (by omega) (by omega)) (cwV 1 hts gX5_shownAbove_X5_isHidden rfl rfl rfl (by decide +kernel) ⟨Nat.le_of_ble_eq_true rfl, Nat.le_of_ble_eq_true rfl⟩) (va_recv hK.1 hP (ci := 5) (q0 := 0) rfl rfl) hP hK rfl hl.1 rfl (Nat.le_of_ble_eq_true rfl) dX5_shownAbove_10 ⟨Nat.zero_le _, Nat.zero_le _⟩ ?_
    refine x_ifeq (tgt := 22) hx hb dX5_shownAbove_13 (by decide) (fun (c_13 : ¬ (rHidA (a 7) (u 4) (nI g) n)) => ?_) (fun (c_13 : rHidA (a 7) (u 4) (nI g) n) => ?_)
    · have hge : g = rUpr (a 7) (u 4) n j := by rw [← hg2]; obtain ⟨q, rfl⟩ : ∃ q, g = q + 1 := ⟨g - 1, by omega⟩; rw [rUpr, if_neg c_13]
      refine lv_iload_n hx hb dX5_shownAbove_22 rfl (lv_at hl 2 rfl) ?_
      exact r_iret hx hb hr hlk (by rw [hge]) dX5_shownAbove_23
    · refine lv_iinc (v := (nI g) + (-1)) (lv' := [(2, .int ((nI g) + (-1))), (0, .ref (c 0)), (1, .int (nI (j + 1)))]) hx hb dX5_shownAbove_16 hl (k := 2) rfl rfl (by decide) rfl (fun ls hl => ?_)
      have hl := lv_cast (l' := [(2, .int (nI (g - 1))), (0, .ref (c 0)), (1, .int (nI (j + 1)))]) hl (by rw [show (nI g) + (-1) = nI (g - 1) from (sb_m1 c_5)])
      refine lv_goto (tgt := 4) hx hb dX5_shownAbove_19 (by decide) ?_
      exact ihi (by omega) (g - 1) _ ⟨by omega, by rw [← hg2]; obtain ⟨q, rfl⟩ : ∃ q, g = q + 1 := ⟨g - 1, by omega⟩; rw [rUpr, if_pos c_13]; rfl⟩ (lv_sub hl [1, 2, 0] rfl)

set_option maxHeartbeats 4000000 in
set_option maxRecDepth 100000 in
theorem k5_gapBetween (l0 : Launch) (D : va_G) (c : Nat → Nat) (cA cC : ClassId) (u : Nat → Int32) (sl : Prop) (X : lS) (up dn : Nat) (hup : up < 4) (hdn : dn < 4) : Met l0 yX5_gapBetween wsX5_gapBetween ({ frames := 1, cells := 0, slots := 0, locals := 21 }) (rPc D (shW c u ++ lyX c cA cC sl X) [(cA, .int), (cC, .object "StaffHeads$Chord")] [.ref (c 0), .int (nI up), .int (nI dn)]) (vp_Si (fun r => r = cGap (X.1 7) (X.1 8) (u 2) (u 3) up dn 100)) 0 0 (fun _ => False) := by
  refine r_head (C := RX5) (cc := cX5_gapBetween) (maxL := 7) (ret := (some .int)) [(0, .ref (c 0)), (1, .int (nI up)), (2, .int (nI dn))] (by decide) rfl rfl (Nat.le_of_ble_eq_true rfl) rfl ?_
  intro p e s mi below meth cd hx hb hr hlk hml hown hts hP hK ls hl
  have hiX10 : ∀ w ∈ wsX10, w ∈ wsX5_gapBetween := fun w h => List.mem_cons_of_mem _ (List.mem_append_right _ h)
  have hiX50 : ∀ w ∈ wsX50, w ∈ wsX5_gapBetween := fun w h => List.mem_cons_of_mem _ (List.mem_append_left _ (List.mem_append_right _ h))
  have f0 := hts (.fieldLink RX5 34 "StaffHeads" "least" "I") (List.mem_of_getElem? (i := 1) rfl)
  have f1 := hts (.fieldLink RX5 26 "StaffHeads" "layout" "LStaffHeads$Layout;") (List.mem_of_getElem? (i := 2) rfl)
  have f2 := hts (.fieldLink RX5 130 "StaffHeads$Layout" "low" "[I") (List.mem_of_getElem? (i := 3) rfl)
  have f3 := hts (.fieldLink RX5 127 "StaffHeads$Layout" "high" "[I") (List.mem_of_getElem? (i := 4) rfl)
  have f4 := hts (.fieldLink RX5 30 "StaffHeads" "pad" "I") (List.mem_of_getElem? (i := 5) rfl)
  have f5 := hts (.methodLink RX5 177 Lib.Math.max.name) (List.mem_of_getElem? (i := 6) rfl)
  have f6 := hts (.static Lib.Math.max.name) (List.mem_of_getElem? (i := 7) rfl)
  have f7 := hts (.initialized "java/lang/Math") (List.mem_of_getElem? (i := 8) rfl)
  have f8 := hts (.code Lib.Math.max.name Lib.Math.max.code 2 (some .int)) (List.mem_of_getElem? (i := 9) rfl)
  have hK1 : kK D [(cA, .int)] s := ⟨hK.1.sub [0] rfl, hK.2⟩
  refine lv_aload_n hx hb dX5_gapBetween_0 rfl (lv_at hl 0 rfl) ?_
  refine va_get (D := D) (ci := 5) (v := .int (u 3)) (C := RX5) (T := TX5) (N := 7) hx hb hts hiX50 hown hK.1 hP 0 rfl rfl 5 (by decide) f0 (fun _ h9 => h9) rfl dX5_gapBetween_1 ?_
  refine x_tp (y := cGap (X.1 7) (X.1 8) (u 2) (u 3) up dn 0) rfl ?_
  refine lv_istore_n (lv' := [(3, .int (cGap (X.1 7) (X.1 8) (u 2) (u 3) up dn 0)), (0, .ref (c 0)), (1, .int (nI up)), (2, .int (nI dn))]) hx hb dX5_gapBetween_4 rfl hl (by decide) rfl (fun ls hl => ?_)
  refine lv_iconst (v := 0) hx hb dX5_gapBetween_5 (by decide) ?_
  refine x_tp (y := nI 0) nI_0.symm ?_
  refine lv_istore (lv' := [(4, .int (nI 0)), (3, .int (cGap (X.1 7) (X.1 8) (u 2) (u 3) up dn 0)), (0, .ref (c 0)), (1, .int (nI up)), (2, .int (nI dn))]) hx hb dX5_gapBetween_6 hl (by decide) rfl (fun ls hl => ?_)
  refine lpR (G := fun ls => W p _ e _ s mi _ below meth cd _ _ _ _ _ (F0 mi 8 ls [])) 7 100 (fun t (_ : Unit) => [(0, .ref (c 0)), (1, .int (nI up)), (2, .int (nI dn)), (3, .int (cGap (X.1 7) (X.1 8) (u 2) (u 3) up dn t)), (4, .int (nI t))]) (fun _ _ => True) ?_ 0 () (Nat.zero_le _) trivial (lv_sub hl [2, 3, 4, 1, 0] rfl)
  clear hl ls
  intro t gu ht htI ls hl iht
  refine lv_iload hx hb dX5_gapBetween_8 (lv_at hl 4 rfl) ?_
  refine lv_bipush (v := 100) hx hb dX5_gapBetween_10 (by decide) ?_
  refine x_tp (y := nI 100) (show (100 : Int32) = nI 100 from rfl) ?_
  refine x_nge (tgt := 72) hx hb dX5_gapBetween_12 (by decide) (by omega) (by omega) (fun c_12 => ?_) (fun c_12 => ?_)
  · obtain rfl : 100 = t := by omega
    refine lv_iload_n hx hb dX5_gapBetween_72 rfl (lv_at hl 3 rfl) ?_
    exact r_iret hx hb hr hlk (rfl) dX5_gapBetween_73
  · refine lv_aload_n hx hb dX5_gapBetween_15 rfl (lv_at hl 0 rfl) ?_
    refine va_get (D := D) (ci := 5) (v := .ref (c 14)) (C := RX5) (T := TX5) (N := 7) hx hb hts hiX50 hown hK.1 hP 0 rfl rfl 3 (by decide) f1 (fun _ h9 => h9) rfl dX5_gapBetween_16 ?_
    refine va_get (D := D) (ci := 1) (v := .ref (c 22)) (C := RX1) (T := TX1) (N := 15) hx hb hts hiX10 hown hK.1 hP 1 rfl rfl 8 (by decide) f2 (fun _ h9 => h9) rfl dX5_gapBetween_19 ?_
    refine lv_iload_n hx hb dX5_gapBetween_22 rfl (lv_at hl 1 rfl) ?_
    refine lv_iload hx hb dX5_gapBetween_23 (lv_at hl 4 rfl) ?_
    refine rcSi (As := [.int (nI up), .int (nI t)]) (rest := [.ref (c 22)]) ⟨hx, hb, hml, hown, hts⟩ (k5_cellOf l0 (nI up) (nI t)) (va_cwS 2 hts gX5_gapBetween_X5_cellOf rfl rfl rfl (by decide +kernel) ⟨Nat.le_of_ble_eq_true rfl, Nat.le_of_ble_eq_true rfl⟩) rfl hl.1 rfl (Nat.le_of_ble_eq_true rfl) dX5_gapBetween_25 ⟨Nat.zero_le _, Nat.zero_le _⟩ ?_
    refine x_tp (y := nI (up * 100 + t)) (cell_nI _ _) ?_
    refine x_iald hx hb hK hP 9 0 rfl rfl (k := (up * 100 + t)) (by omega) (by decide) dX5_gapBetween_28 ?_
    refine lv_ineg hx hb dX5_gapBetween_29 ?_
    refine lv_istore (lv' := [(5, .int (-(X.1 8 (up * 100 + t)))), (0, .ref (c 0)), (1, .int (nI up)), (2, .int (nI dn)), (3, .int (cGap (X.1 7) (X.1 8) (u 2) (u 3) up dn t)), (4, .int (nI t))]) hx hb dX5_gapBetween_30 hl (by decide) rfl (fun ls hl => ?_)
    refine lv_aload_n hx hb dX5_gapBetween_32 rfl (lv_at hl 1 rfl) ?_
    refine va_get (D := D) (ci := 5) (v := .ref (c 14)) (C := RX5) (T := TX5) (N := 7) hx hb hts hiX50 hown hK.1 hP 0 rfl rfl 3 (by decide) f1 (fun _ h9 => h9) rfl dX5_gapBetween_33 ?_
    refine va_get (D := D) (ci := 1) (v := .ref (c 21)) (C := RX1) (T := TX1) (N := 15) hx hb hts hiX10 hown hK.1 hP 1 rfl rfl 7 (by decide) f3 (fun _ h9 => h9) rfl dX5_gapBetween_36 ?_
    refine lv_iload_n hx hb dX5_gapBetween_39 rfl (lv_at hl 3 rfl) ?_
    refine lv_iload hx hb dX5_gapBetween_40 (lv_at hl 5 rfl) ?_
    refine rcSi (As := [.int (nI dn), .int (nI t)]) (rest := [.ref (c 21)]) ⟨hx, hb, hml, hown, hts⟩ (k5_cellOf l0 (nI dn) (nI t)) (va_cwS 2 hts gX5_gapBetween_X5_cellOf rfl rfl rfl (by decide +kernel) ⟨Nat.le_of_ble_eq_true rfl, Nat.le_of_ble_eq_true rfl⟩) rfl hl.1 rfl (Nat.le_of_ble_eq_true rfl) dX5_gapBetween_42 ⟨Nat.zero_le _, Nat.zero_le _⟩ ?_
    refine x_tp (y := nI (dn * 100 + t)) (cell_nI _ _) ?_
    refine x_iald hx hb hK hP 8 0 rfl rfl (k := (dn * 100 + t)) (by omega) (by decide) dX5_gapBetween_45 ?_
    refine lv_bipush (v := 8) hx hb dX5_gapBetween_46 (by decide) ?_
    refine lv_isub hx hb dX5_gapBetween_48 ?_
    refine lv_istore (lv' := [(6, .int ((X.1 7 (dn * 100 + t)) - 8)), (5, .int (-(X.1 8 (up * 100 + t)))), (0, .ref (c 0)), (1, .int (nI up)), (2, .int (nI dn)), (3, .int (cGap (X.1 7) (X.1 8) (u 2) (u 3) up dn t)), (4, .int (nI t))]) hx hb dX5_gapBetween_49 hl (by decide) rfl (fun ls hl => ?_)
    refine lv_iload_n hx hb dX5_gapBetween_51 rfl (lv_at hl 5 rfl) ?_
    refine lv_iload hx hb dX5_gapBetween_52 (lv_at hl 1 rfl) ?_
    refine lv_iload hx hb dX5_gapBetween_54 (lv_at hl 0 rfl) ?_
    refine lv_iadd hx hb dX5_gapBetween_56 ?_
    refine lv_aload_n hx hb dX5_gapBetween_57 rfl (lv_at hl 2 rfl) ?_
    refine va_get (D := D) (ci := 5) (v := .int (u 2)) (C := RX5) (T := TX5) (N := 7) hx hb hts hiX50 hown hK.1 hP 0 rfl rfl 4 (by decide) f4 (fun _ h9 => h9) rfl dX5_gapBetween_58 ?_
    refine lv_iadd hx hb dX5_gapBetween_61 ?_
    refine va_mmax hx hb (hml.trans hl.1.symm) hown f5 f6 f7 f8 (Nat.le_of_ble_eq_true rfl) (Nat.le_of_ble_eq_true rfl) (Nat.zero_le _) (Nat.zero_le _) dX5_gapBetween_62 ?_
    refine x_tp (y := cGap (X.1 7) (X.1 8) (u 2) (u 3) up dn (t + 1)) rfl ?_
    refine lv_istore_n (lv' := [(3, .int (cGap (X.1 7) (X.1 8) (u 2) (u 3) up dn (t + 1))), (6, .int ((X.1 7 (dn * 100 + t)) - 8)), (5, .int (-(X.1 8 (up * 100 + t)))), (0, .ref (c 0)), (1, .int (nI up)), (2, .int (nI dn)), (4, .int (nI t))]) hx hb dX5_gapBetween_65 rfl hl (by decide) rfl (fun ls hl => ?_)
    refine lv_iinc (v := nI (t + 1)) (lv' := [(4, .int (nI (t + 1))), (3, .int (cGap (X.1 7) (X.1 8) (u 2) (u 3) up dn (t + 1))), (6, .int ((X.1 7 (dn * 100 + t)) - 8)), (5, .int (-(X.1 8 (up * 100 + t)))), (0, .ref (c 0)), (1, .int (nI up)), (2, .int (nI dn))]) hx hb dX5_gapBetween_66 hl (k := 6) rfl (x_inc t) (by decide) rfl (fun ls hl => ?_)
    refine lv_goto (tgt := 8) hx hb dX5_gapBetween_69 (by decide) ?_
    exact iht (by omega) () _ trivial (lv_sub hl [4, 5, 6, 1, 0] rfl)

set_option maxHeartbeats 4000000 in
set_option maxRecDepth 100000 in
theorem k5_stepsDownTo (l0 : Launch) (D : va_G) (c : Nat → Nat) (cA cC : ClassId) (u : Nat → Int32) (n : Nat) (a : Nat → Nat → Int32) (sl : Prop) (X : lS) (j : Nat) (hn : n ≤ 60) (hj : j < 4) : Met l0 yX5_stepsDownTo wsX5_stepsDownTo ({ frames := 3, cells := 0, slots := 0, locals := 65 }) (rPc D (shW c u ++ noW c cA n a ++ lyX c cA cC sl X) [(cA, .int), (cC, .object "StaffHeads$Chord")] [.ref (c 0), .int (nI j)]) (vp_Si (fun r => r = cDown (a 7) (u 4) n (X.1 7) (X.1 8) (u 2) (u 3) j)) 0 0 (fun _ => False) := by
  refine r_head (C := RX5) (cc := cX5_stepsDownTo) (maxL := 4) (ret := (some .int)) [(0, .ref (c 0)), (1, .int (nI j))] (by decide) rfl rfl (Nat.le_of_ble_eq_true rfl) rfl ?_
  intro p e s mi below meth cd hx hb hr hlk hml hown hts hP hK ls hl
  have hK1 : kK D [(cA, .int)] s := ⟨hK.1.sub [0] rfl, hK.2⟩
  refine lv_iconst (v := 0) hx hb dX5_stepsDownTo_0 (by decide) ?_
  refine x_tp (y := cDown (a 7) (u 4) n (X.1 7) (X.1 8) (u 2) (u 3) 0) rfl ?_
  refine lv_istore_n (lv' := [(2, .int (cDown (a 7) (u 4) n (X.1 7) (X.1 8) (u 2) (u 3) 0)), (0, .ref (c 0)), (1, .int (nI j))]) hx hb dX5_stepsDownTo_1 rfl hl (by decide) rfl (fun ls hl => ?_)
  refine lv_iconst (v := 1) hx hb dX5_stepsDownTo_2 (by decide) ?_
  refine x_tp (y := nI (0 + 1)) (show (1 : Int32) = nI (0 + 1) from rfl) ?_
  refine lv_istore_n (lv' := [(3, .int (nI (0 + 1))), (2, .int (cDown (a 7) (u 4) n (X.1 7) (X.1 8) (u 2) (u 3) 0)), (0, .ref (c 0)), (1, .int (nI j))]) hx hb dX5_stepsDownTo_3 rfl hl (by decide) rfl (fun ls hl => ?_)
  refine lpR (G := fun ls => W p _ e _ s mi _ below meth cd _ _ _ _ _ (F0 mi 4 ls [])) 4 j (fun k (_ : Unit) => [(0, .ref (c 0)), (1, .int (nI j)), (2, .int (cDown (a 7) (u 4) n (X.1 7) (X.1 8) (u 2) (u 3) k)), (3, .int (nI (k + 1)))]) (fun _ _ => True) ?_ 0 () (Nat.zero_le _) trivial (lv_sub hl [2, 3, 1, 0] rfl)
  clear hl ls
  intro k gu hk hkI ls hl ihk
  refine lv_iload_n hx hb dX5_stepsDownTo_4 rfl (lv_at hl 3 rfl) ?_
  refine lv_iload_n hx hb dX5_stepsDownTo_5 rfl (lv_at hl 1 rfl) ?_
  refine x_ngt (tgt := 39) hx hb dX5_stepsDownTo_6 (by decide) (by omega) (by omega) (fun c_6 => ?_) (fun c_6 => ?_)
  · obtain rfl : j = k := by omega
    refine lv_iload_n hx hb dX5_stepsDownTo_39 rfl (lv_at hl 2 rfl) ?_
    exact r_iret hx hb hr hlk (rfl) dX5_stepsDownTo_40
  · refine lv_aload_n hx hb dX5_stepsDownTo_9 rfl (lv_at hl 0 rfl) ?_
    refine lv_iload_n hx hb dX5_stepsDownTo_10 rfl (lv_at hl 3 rfl) ?_
    refine rcVi (As := [.int (nI (k + 1))]) (rest := []) ⟨hx, hb, hml, hown, hts⟩ (k5_isHidden l0 D c cA cC u n a (k + 1) (by omega) (by omega)) (cwV 1 hts gX5_stepsDownTo_X5_isHidden rfl rfl rfl (by decide +kernel) ⟨Nat.le_of_ble_eq_true rfl, Nat.le_of_ble_eq_true rfl⟩) (va_recv hK.1 hP (ci := 5) (q0 := 0) rfl rfl) (hP.sub [0, 1, 2, 3, 4, 5, 6, 7] rfl) hK rfl hl.1 rfl (Nat.le_of_ble_eq_true rfl) dX5_stepsDownTo_11 ⟨Nat.zero_le _, Nat.zero_le _⟩ ?_
    refine x_ifne (tgt := 33) hx hb dX5_stepsDownTo_14 (by decide) (fun (c_14 : rHidA (a 7) (u 4) (nI (k + 1)) n) => ?_) (fun (c_14 : ¬ (rHidA (a 7) (u 4) (nI (k + 1)) n)) => ?_)
    · have hl := lv_cast (l' := [(0, .ref (c 0)), (1, .int (nI j)), (2, .int (cDown (a 7) (u 4) n (X.1 7) (X.1 8) (u 2) (u 3) (k + 1))), (3, .int (nI (k + 1)))]) hl (by rw [show cDown (a 7) (u 4) n (X.1 7) (X.1 8) (u 2) (u 3) k = cDown (a 7) (u 4) n (X.1 7) (X.1 8) (u 2) (u 3) (k + 1) from (by rw [cDown, if_pos c_14])])
      refine lv_iinc (v := nI (k + 1 + 1)) (lv' := [(3, .int (nI (k + 1 + 1))), (0, .ref (c 0)), (1, .int (nI j)), (2, .int (cDown (a 7) (u 4) n (X.1 7) (X.1 8) (u 2) (u 3) (k + 1)))]) hx hb dX5_stepsDownTo_33 hl (k := 3) rfl (x_inc (k + 1)) (by decide) rfl (fun ls hl => ?_)
      refine lv_goto (tgt := 4) hx hb dX5_stepsDownTo_36 (by decide) ?_
      exact ihk (by omega) () _ trivial (lv_sub hl [1, 2, 3, 0] rfl)
    · refine lv_iload_n hx hb dX5_stepsDownTo_17 rfl (lv_at hl 2 rfl) ?_
      refine lv_aload_n hx hb dX5_stepsDownTo_18 rfl (lv_at hl 0 rfl) ?_
      refine lv_aload_n hx hb dX5_stepsDownTo_19 rfl (lv_at hl 0 rfl) ?_
      refine lv_iload_n hx hb dX5_stepsDownTo_20 rfl (lv_at hl 3 rfl) ?_
      refine rcVi (As := [.int (nI (k + 1))]) (rest := [.ref (c 0), .int (cDown (a 7) (u 4) n (X.1 7) (X.1 8) (u 2) (u 3) k)]) ⟨hx, hb, hml, hown, hts⟩ (k5_shownAbove l0 D c cA cC u n a k (by omega) (by omega)) (cwV 1 hts gX5_stepsDownTo_X5_shownAbove rfl rfl rfl (by decide +kernel) ⟨Nat.le_of_ble_eq_true rfl, Nat.le_of_ble_eq_true rfl⟩) (va_recv hK.1 hP (ci := 5) (q0 := 0) rfl rfl) (hP.sub [0, 1, 2, 3, 4, 5, 6, 7] rfl) hK rfl hl.1 rfl (Nat.le_of_ble_eq_true rfl) dX5_stepsDownTo_21 ⟨Nat.zero_le _, Nat.zero_le _⟩ ?_
      have hup := rUpr_le (a 7) (u 4) n k
      refine lv_iload_n hx hb dX5_stepsDownTo_24 rfl (lv_at hl 3 rfl) ?_
      refine rcVi (As := [.int (nI (rUpr (a 7) (u 4) n k)), .int (nI (k + 1))]) (rest := [.int (cDown (a 7) (u 4) n (X.1 7) (X.1 8) (u 2) (u 3) k)]) ⟨hx, hb, hml, hown, hts⟩ (k5_gapBetween l0 D c cA cC u sl X (rUpr (a 7) (u 4) n k) (k + 1) (by omega) (by omega)) (cwV 2 hts gX5_stepsDownTo_X5_gapBetween rfl rfl rfl (by decide +kernel) ⟨Nat.le_of_ble_eq_true rfl, Nat.le_of_ble_eq_true rfl⟩) (va_recv hK.1 hP (ci := 5) (q0 := 0) rfl rfl) (hP.sub [0, 8, 9, 10, 11, 12, 13, 14, 15, 16, 17, 18, 19, 20, 21, 22, 23, 24, 25, 26, 27, 28, 29, 30] rfl) hK rfl hl.1 rfl (Nat.le_of_ble_eq_true rfl) dX5_stepsDownTo_25 ⟨Nat.zero_le _, Nat.zero_le _⟩ ?_
      refine lv_bipush (v := 8) hx hb dX5_stepsDownTo_28 (by decide) ?_
      refine lv_iadd hx hb dX5_stepsDownTo_30 ?_
      refine lv_iadd hx hb dX5_stepsDownTo_31 ?_
      refine x_tp (y := cDown (a 7) (u 4) n (X.1 7) (X.1 8) (u 2) (u 3) (k + 1)) (by rw [cDown, if_neg c_14]) ?_
      refine lv_istore_n (lv' := [(2, .int (cDown (a 7) (u 4) n (X.1 7) (X.1 8) (u 2) (u 3) (k + 1))), (0, .ref (c 0)), (1, .int (nI j)), (3, .int (nI (k + 1)))]) hx hb dX5_stepsDownTo_32 rfl hl (by decide) rfl (fun ls hl => ?_)
      refine lv_iinc (v := nI (k + 1 + 1)) (lv' := [(3, .int (nI (k + 1 + 1))), (2, .int (cDown (a 7) (u 4) n (X.1 7) (X.1 8) (u 2) (u 3) (k + 1))), (0, .ref (c 0)), (1, .int (nI j))]) hx hb dX5_stepsDownTo_33 hl (k := 3) rfl (x_inc (k + 1)) (by decide) rfl (fun ls hl => ?_)
      refine lv_goto (tgt := 4) hx hb dX5_stepsDownTo_36 (by decide) ?_
      exact ihk (by omega) () _ trivial (lv_sub hl [2, 3, 1, 0] rfl)
