set_option maxHeartbeats 4000000 in
set_option maxRecDepth 100000 in
theorem k1_clear (l0 : Launch) (D : va_G) (c : Nat → Nat) (cA cC : ClassId) (sl : Prop) (l1 l2 l3 l4 l5 : Nat → Int32) (C : Nat → Nat) (l7 l8 l9 l10 l11 l12 : Nat → Int32) (sz : Nat) : Met l0 yX1_clear wsX1_clear ({ frames := 1, cells := 0, slots := 0, locals := 23 }) (wPc D (lyW c cA cC sl l1 l2 l3 l4 l5 C l7 l8 l9 l10 l11 l12) [(cA, .int), (cC, .object "StaffHeads$Chord")] sz [.ref (c 14)]) (va_Qv (fun X : (Nat → Nat → Int32) × (Nat → Nat) => (∀ j, j < 60 → X.2 j = 0) ∧ (∀ j, j < 400 → X.1 7 j = 8) ∧ (∀ j, j < 400 → X.1 8 j = 0) ∧ (∀ j, j < 400 → X.1 9 j = 0) ∧ (∀ j, j < 400 → X.1 10 j = 0) ∧ (∀ j, j < 400 → X.1 11 j = 0) ∧ (∀ j, j < 400 → X.1 12 j = 0)) (wB D (lyW c cA cC sl l1 l2 l3 l4 l5 C l7 l8 l9 l10 l11 l12) sz (fun X => lyW c cA cC sl l1 l2 l3 l4 l5 X.2 (X.1 7) (X.1 8) (X.1 9) (X.1 10) (X.1 11) (X.1 12))) (va_A (lyW c cA cC sl l1 l2 l3 l4 l5 C l7 l8 l9 l10 l11 l12) sz)) 0 0 (va_A (lyW c cA cC sl l1 l2 l3 l4 l5 C l7 l8 l9 l10 l11 l12) sz) := by
  refine w_head (C := RX1) (cc := cX1_clear) (maxL := 1) (ret := none) [(0, .ref (c 14))] (by decide) rfl rfl (Nat.le_of_ble_eq_true rfl) rfl ?_
  intro p e s mi below meth cd hx hb hr hlk hml hown hin hts hP hD hS hA hK ls hl
  have hiX10 : ∀ w ∈ wsX10, w ∈ wsX1_clear := fun w h => List.mem_cons_of_mem _ (List.mem_append_right _ h)
  have f0 := hts (.fieldLink RX1 31 "StaffHeads$Layout" "signColumn" "[I") (List.mem_of_getElem? (i := 1) rfl)
  have f1 := hts (.fieldLink RX1 34 "StaffHeads$Layout" "high" "[I") (List.mem_of_getElem? (i := 2) rfl)
  have f2 := hts (.fieldLink RX1 37 "StaffHeads$Layout" "low" "[I") (List.mem_of_getElem? (i := 3) rfl)
  have f3 := hts (.fieldLink RX1 40 "StaffHeads$Layout" "noteCount" "[I") (List.mem_of_getElem? (i := 4) rfl)
  have f4 := hts (.fieldLink RX1 43 "StaffHeads$Layout" "chordCount" "[I") (List.mem_of_getElem? (i := 5) rfl)
  have f5 := hts (.fieldLink RX1 46 "StaffHeads$Layout" "signColumns" "[I") (List.mem_of_getElem? (i := 6) rfl)
  have f6 := hts (.fieldLink RX1 49 "StaffHeads$Layout" "mostMoved" "[I") (List.mem_of_getElem? (i := 7) rfl)
  have hK1 : kK D [(cA, .int)] s := ⟨hK.1.sub [0] rfl, hK.2⟩
  refine lv_aload_n hx hb dX1_clear_0 rfl (lv_at hl 0 rfl) ?_
  refine va_get (D := D) (ci := 1) (v := .ref (c 20)) (C := RX1) (T := TX1) (N := 15) hx hb hts hiX10 hown hK.1 hP 0 rfl rfl 6 (by decide) f0 (fun _ h9 => h9) rfl dX1_clear_1 ?_
  refine lv_iconst (v := 0) hx hb dX1_clear_4 (by decide) ?_
  refine x_tp (y := nI 0) nI_0.symm ?_
  refine wxSv (S0 := Nat → Nat) (As := [.ref (c 20), .int (nI 0)]) (rest := []) ⟨hx, hb, hml, hown, hts⟩ (k7_fillN l0 D cA (c 20) 60 C 0 _ (by decide)) (va_cwS 2 hts gX1_clear_J7_fill_53178 rfl rfl rfl (by decide +kernel) ⟨Nat.le_of_ble_eq_true rfl, Nat.le_of_ble_eq_true rfl⟩) hP hD hS hA hK1 [6] [0, 1, 2, 3, 4, 5, 7, 8, 9, 10, 11, 12, 13] rfl 14 rfl (by decide) (by decide) (by decide) (by decide) rfl hl.1 rfl (Nat.le_of_ble_eq_true rfl) dX1_clear_5 ⟨Nat.zero_le _, Nat.zero_le _⟩ (fun C2 H locs hC2 hP hD hS => ?_)
  have hP : va_P D vwCl (lyW c cA cC sl l1 l2 l3 l4 l5 C2 l7 l8 l9 l10 l11 l12) H := hP.sub [0, 1, 2, 3, 4, 5, 13, 6, 7, 8, 9, 10, 11, 12] rfl
  have hD : va_D (va_A (lyW c cA cC sl l1 l2 l3 l4 l5 C l7 l8 l9 l10 l11 l12) sz) (lyW c cA cC sl l1 l2 l3 l4 l5 C2 l7 l8 l9 l10 l11 l12) := hD.sub [0, 1, 2, 3, 4, 5, 13, 6, 7, 8, 9, 10, 11, 12] (by decide) rfl
  refine lv_aload_n hx hb dX1_clear_8 rfl (lv_at hl 0 rfl) ?_
  refine va_get (D := D) (ci := 1) (v := .ref (c 21)) (C := RX1) (T := TX1) (N := 15) hx hb hts hiX10 hown hK.1 hP 0 rfl rfl 7 (by decide) f1 (fun _ h9 => h9) rfl dX1_clear_9 ?_
  refine lv_bipush (v := 8) hx hb dX1_clear_12 (by decide) ?_
  refine wxSv (S0 := Nat → Int32) (As := [.ref (c 21), .int 8]) (rest := []) ⟨hx, hb, hml, hown, hts⟩ (k7_fillP l0 D cA (c 21) 400 l7 8 _ (by decide)) (va_cwS 2 hts gX1_clear_J7_fill_53178 rfl rfl rfl (by decide +kernel) ⟨Nat.le_of_ble_eq_true rfl, Nat.le_of_ble_eq_true rfl⟩) hP hD hS hA hK1 [7] [0, 1, 2, 3, 4, 5, 6, 8, 9, 10, 11, 12, 13] rfl 14 rfl (by decide) (by decide) (by decide) (by decide) rfl hl.1 rfl (Nat.le_of_ble_eq_true rfl) dX1_clear_14 ⟨Nat.zero_le _, Nat.zero_le _⟩ (fun R7 H locs hR7 hP hD hS => ?_)
  have hP : va_P D vwCl (lyW c cA cC sl l1 l2 l3 l4 l5 C2 R7 l8 l9 l10 l11 l12) H := hP.sub [0, 1, 2, 3, 4, 5, 6, 13, 7, 8, 9, 10, 11, 12] rfl
  have hD : va_D (va_A (lyW c cA cC sl l1 l2 l3 l4 l5 C l7 l8 l9 l10 l11 l12) sz) (lyW c cA cC sl l1 l2 l3 l4 l5 C2 R7 l8 l9 l10 l11 l12) := hD.sub [0, 1, 2, 3, 4, 5, 6, 13, 7, 8, 9, 10, 11, 12] (by decide) rfl
  refine lv_aload_n hx hb dX1_clear_17 rfl (lv_at hl 0 rfl) ?_
  refine va_get (D := D) (ci := 1) (v := .ref (c 22)) (C := RX1) (T := TX1) (N := 15) hx hb hts hiX10 hown hK.1 hP 0 rfl rfl 8 (by decide) f2 (fun _ h9 => h9) rfl dX1_clear_18 ?_
  refine lv_iconst (v := 0) hx hb dX1_clear_21 (by decide) ?_
  refine wxSv (S0 := Nat → Int32) (As := [.ref (c 22), .int 0]) (rest := []) ⟨hx, hb, hml, hown, hts⟩ (k7_fillP l0 D cA (c 22) 400 l8 0 _ (by decide)) (va_cwS 2 hts gX1_clear_J7_fill_53178 rfl rfl rfl (by decide +kernel) ⟨Nat.le_of_ble_eq_true rfl, Nat.le_of_ble_eq_true rfl⟩) hP hD hS hA hK1 [8] [0, 1, 2, 3, 4, 5, 6, 7, 9, 10, 11, 12, 13] rfl 14 rfl (by decide) (by decide) (by decide) (by decide) rfl hl.1 rfl (Nat.le_of_ble_eq_true rfl) dX1_clear_22 ⟨Nat.zero_le _, Nat.zero_le _⟩ (fun R8 H locs hR8 hP hD hS => ?_)
  have hP : va_P D vwCl (lyW c cA cC sl l1 l2 l3 l4 l5 C2 R7 R8 l9 l10 l11 l12) H := hP.sub [0, 1, 2, 3, 4, 5, 6, 7, 13, 8, 9, 10, 11, 12] rfl
  have hD : va_D (va_A (lyW c cA cC sl l1 l2 l3 l4 l5 C l7 l8 l9 l10 l11 l12) sz) (lyW c cA cC sl l1 l2 l3 l4 l5 C2 R7 R8 l9 l10 l11 l12) := hD.sub [0, 1, 2, 3, 4, 5, 6, 7, 13, 8, 9, 10, 11, 12] (by decide) rfl
  refine lv_aload_n hx hb dX1_clear_25 rfl (lv_at hl 0 rfl) ?_
  refine va_get (D := D) (ci := 1) (v := .ref (c 23)) (C := RX1) (T := TX1) (N := 15) hx hb hts hiX10 hown hK.1 hP 0 rfl rfl 9 (by decide) f3 (fun _ h9 => h9) rfl dX1_clear_26 ?_
  refine lv_iconst (v := 0) hx hb dX1_clear_29 (by decide) ?_
  refine wxSv (S0 := Nat → Int32) (As := [.ref (c 23), .int 0]) (rest := []) ⟨hx, hb, hml, hown, hts⟩ (k7_fillP l0 D cA (c 23) 400 l9 0 _ (by decide)) (va_cwS 2 hts gX1_clear_J7_fill_53178 rfl rfl rfl (by decide +kernel) ⟨Nat.le_of_ble_eq_true rfl, Nat.le_of_ble_eq_true rfl⟩) hP hD hS hA hK1 [9] [0, 1, 2, 3, 4, 5, 6, 7, 8, 10, 11, 12, 13] rfl 14 rfl (by decide) (by decide) (by decide) (by decide) rfl hl.1 rfl (Nat.le_of_ble_eq_true rfl) dX1_clear_30 ⟨Nat.zero_le _, Nat.zero_le _⟩ (fun R9 H locs hR9 hP hD hS => ?_)
  have hP : va_P D vwCl (lyW c cA cC sl l1 l2 l3 l4 l5 C2 R7 R8 R9 l10 l11 l12) H := hP.sub [0, 1, 2, 3, 4, 5, 6, 7, 8, 13, 9, 10, 11, 12] rfl
  have hD : va_D (va_A (lyW c cA cC sl l1 l2 l3 l4 l5 C l7 l8 l9 l10 l11 l12) sz) (lyW c cA cC sl l1 l2 l3 l4 l5 C2 R7 R8 R9 l10 l11 l12) := hD.sub [0, 1, 2, 3, 4, 5, 6, 7, 8, 13, 9, 10, 11, 12] (by decide) rfl
  refine lv_aload_n hx hb dX1_clear_33 rfl (lv_at hl 0 rfl) ?_
  refine va_get (D := D) (ci := 1) (v := .ref (c 24)) (C := RX1) (T := TX1) (N := 15) hx hb hts hiX10 hown hK.1 hP 0 rfl rfl 10 (by decide) f4 (fun _ h9 => h9) rfl dX1_clear_34 ?_
  refine lv_iconst (v := 0) hx hb dX1_clear_37 (by decide) ?_
  refine wxSv (S0 := Nat → Int32) (As := [.ref (c 24), .int 0]) (rest := []) ⟨hx, hb, hml, hown, hts⟩ (k7_fillP l0 D cA (c 24) 400 l10 0 _ (by decide)) (va_cwS 2 hts gX1_clear_J7_fill_53178 rfl rfl rfl (by decide +kernel) ⟨Nat.le_of_ble_eq_true rfl, Nat.le_of_ble_eq_true rfl⟩) hP hD hS hA hK1 [10] [0, 1, 2, 3, 4, 5, 6, 7, 8, 9, 11, 12, 13] rfl 14 rfl (by decide) (by decide) (by decide) (by decide) rfl hl.1 rfl (Nat.le_of_ble_eq_true rfl) dX1_clear_38 ⟨Nat.zero_le _, Nat.zero_le _⟩ (fun R10 H locs hR10 hP hD hS => ?_)
  have hP : va_P D vwCl (lyW c cA cC sl l1 l2 l3 l4 l5 C2 R7 R8 R9 R10 l11 l12) H := hP.sub [0, 1, 2, 3, 4, 5, 6, 7, 8, 9, 13, 10, 11, 12] rfl
  have hD : va_D (va_A (lyW c cA cC sl l1 l2 l3 l4 l5 C l7 l8 l9 l10 l11 l12) sz) (lyW c cA cC sl l1 l2 l3 l4 l5 C2 R7 R8 R9 R10 l11 l12) := hD.sub [0, 1, 2, 3, 4, 5, 6, 7, 8, 9, 13, 10, 11, 12] (by decide) rfl
  refine lv_aload_n hx hb dX1_clear_41 rfl (lv_at hl 0 rfl) ?_
  refine va_get (D := D) (ci := 1) (v := .ref (c 25)) (C := RX1) (T := TX1) (N := 15) hx hb hts hiX10 hown hK.1 hP 0 rfl rfl 11 (by decide) f5 (fun _ h9 => h9) rfl dX1_clear_42 ?_
  refine lv_iconst (v := 0) hx hb dX1_clear_45 (by decide) ?_
  refine wxSv (S0 := Nat → Int32) (As := [.ref (c 25), .int 0]) (rest := []) ⟨hx, hb, hml, hown, hts⟩ (k7_fillP l0 D cA (c 25) 400 l11 0 _ (by decide)) (va_cwS 2 hts gX1_clear_J7_fill_53178 rfl rfl rfl (by decide +kernel) ⟨Nat.le_of_ble_eq_true rfl, Nat.le_of_ble_eq_true rfl⟩) hP hD hS hA hK1 [11] [0, 1, 2, 3, 4, 5, 6, 7, 8, 9, 10, 12, 13] rfl 14 rfl (by decide) (by decide) (by decide) (by decide) rfl hl.1 rfl (Nat.le_of_ble_eq_true rfl) dX1_clear_46 ⟨Nat.zero_le _, Nat.zero_le _⟩ (fun R11 H locs hR11 hP hD hS => ?_)
  have hP : va_P D vwCl (lyW c cA cC sl l1 l2 l3 l4 l5 C2 R7 R8 R9 R10 R11 l12) H := hP.sub [0, 1, 2, 3, 4, 5, 6, 7, 8, 9, 10, 13, 11, 12] rfl
  have hD : va_D (va_A (lyW c cA cC sl l1 l2 l3 l4 l5 C l7 l8 l9 l10 l11 l12) sz) (lyW c cA cC sl l1 l2 l3 l4 l5 C2 R7 R8 R9 R10 R11 l12) := hD.sub [0, 1, 2, 3, 4, 5, 6, 7, 8, 9, 10, 13, 11, 12] (by decide) rfl
  refine lv_aload_n hx hb dX1_clear_49 rfl (lv_at hl 0 rfl) ?_
  refine va_get (D := D) (ci := 1) (v := .ref (c 26)) (C := RX1) (T := TX1) (N := 15) hx hb hts hiX10 hown hK.1 hP 0 rfl rfl 12 (by decide) f6 (fun _ h9 => h9) rfl dX1_clear_50 ?_
  refine lv_iconst (v := 0) hx hb dX1_clear_53 (by decide) ?_
  refine wxSv (S0 := Nat → Int32) (As := [.ref (c 26), .int 0]) (rest := []) ⟨hx, hb, hml, hown, hts⟩ (k7_fillP l0 D cA (c 26) 400 l12 0 _ (by decide)) (va_cwS 2 hts gX1_clear_J7_fill_53178 rfl rfl rfl (by decide +kernel) ⟨Nat.le_of_ble_eq_true rfl, Nat.le_of_ble_eq_true rfl⟩) hP hD hS hA hK1 [12] [0, 1, 2, 3, 4, 5, 6, 7, 8, 9, 10, 11, 13] rfl 14 rfl (by decide) (by decide) (by decide) (by decide) rfl hl.1 rfl (Nat.le_of_ble_eq_true rfl) dX1_clear_54 ⟨Nat.zero_le _, Nat.zero_le _⟩ (fun R12 H locs hR12 hP hD hS => ?_)
  have hP : va_P D vwCl (lyW c cA cC sl l1 l2 l3 l4 l5 C2 R7 R8 R9 R10 R11 R12) H := hP.sub [0, 1, 2, 3, 4, 5, 6, 7, 8, 9, 10, 11, 13, 12] rfl
  have hD : va_D (va_A (lyW c cA cC sl l1 l2 l3 l4 l5 C l7 l8 l9 l10 l11 l12) sz) (lyW c cA cC sl l1 l2 l3 l4 l5 C2 R7 R8 R9 R10 R11 R12) := hD.sub [0, 1, 2, 3, 4, 5, 6, 7, 8, 9, 10, 11, 13, 12] (by decide) rfl
  exact w_vret (S0 := (Nat → Nat → Int32) × (Nat → Nat)) (w1 := fun X => lyW c cA cC sl l1 l2 l3 l4 l5 X.2 (X.1 7) (X.1 8) (X.1 9) (X.1 10) (X.1 11) (X.1 12)) (fun r => if r = 7 then R7 else if r = 8 then R8 else if r = 9 then R9 else if r = 10 then R10 else if r = 11 then R11 else R12, C2) hx hb hr hlk hP hD hS ⟨hC2, hR7, hR8, hR9, hR10, hR11, hR12⟩ dX1_clear_57

set_option maxHeartbeats 4000000 in
set_option maxRecDepth 100000 in
theorem k1_keep (l0 : Launch) (D : va_G) (c : Nat → Nat) (cA cC : ClassId) (sl : Prop) (l1 l2 l3 l4 l5 : Nat → Int32) (C : Nat → Nat) (l7 l8 l9 l10 l11 l12 : Nat → Int32) (q0 q1 z : Nat) (lw hg : Int32) (O U : Prop) (mv : Nat) (M : Nat → Nat) (ce sz : Nat) (hce : ce < 400) (hz : z ≤ 60) (hM : ∀ i, i < z → M i < 60) : Met l0 yX1_keep wsX1_keep ({ frames := 2, cells := 0, slots := 0, locals := 41 }) (wPc D (lyW c cA cC sl l1 l2 l3 l4 l5 C l7 l8 l9 l10 l11 l12 ++ kW q0 q1 cA z lw hg O U mv M) [(cA, .int), (cC, .object "StaffHeads$Chord")] sz [.ref (c 14), .ref q0, .int (nI ce)]) (va_Qv (fun _ : Unit => True) (wB D (lyW c cA cC sl l1 l2 l3 l4 l5 C l7 l8 l9 l10 l11 l12 ++ kW q0 q1 cA z lw hg O U mv M) sz (fun _ => lyW c cA cC sl l1 l2 l3 (cRow l4 M (nI mv) z) (cRow l5 M (nI z) z) C (upd l7 ce (mxI (l7 ce) (cI (U ∧ ¬ O) (mxI (hg + 7) 4) hg))) (upd l8 ce (mnI (l8 ce) (cI (¬ U ∧ ¬ O) (mnI (lw - 7) 4) lw))) l9 l10 l11 (upd l12 ce (mxI (l12 ce) (nI mv))) ++ kW q0 q1 cA z lw hg O U mv M)) (va_A (lyW c cA cC sl l1 l2 l3 l4 l5 C l7 l8 l9 l10 l11 l12 ++ kW q0 q1 cA z lw hg O U mv M) sz)) 0 0 (va_A (lyW c cA cC sl l1 l2 l3 l4 l5 C l7 l8 l9 l10 l11 l12 ++ kW q0 q1 cA z lw hg O U mv M) sz) := by
  refine w_head (C := RX1) (cc := cX1_keep) (maxL := 4) (ret := none) [(0, .ref (c 14)), (1, .ref q0), (2, .int (nI ce))] (by decide) rfl rfl (Nat.le_of_ble_eq_true rfl) rfl ?_
  intro p e s mi below meth cd hx hb hr hlk hml hown hin hts hP hD hS hA hK ls hl
  have hiX00 : ∀ w ∈ wsX00, w ∈ wsX1_keep := fun w h => List.mem_cons_of_mem _ (List.mem_append_left _ (List.mem_append_right _ h))
  have hiX10 : ∀ w ∈ wsX10, w ∈ wsX1_keep := fun w h => List.mem_cons_of_mem _ (List.mem_append_right _ h)
  have f0 := hts (.fieldLink RX1 123 "StaffHeads$Chord" "size" "I") (List.mem_of_getElem? (i := 1) rfl)
  have f1 := hts (.fieldLink RX1 34 "StaffHeads$Layout" "high" "[I") (List.mem_of_getElem? (i := 6) rfl)
  have f2 := hts (.methodLink RX1 189 Lib.Math.max.name) (List.mem_of_getElem? (i := 7) rfl)
  have f3 := hts (.static Lib.Math.max.name) (List.mem_of_getElem? (i := 8) rfl)
  have f4 := hts (.initialized "java/lang/Math") (List.mem_of_getElem? (i := 9) rfl)
  have f5 := hts (.code Lib.Math.max.name Lib.Math.max.code 2 (some .int)) (List.mem_of_getElem? (i := 10) rfl)
  have f6 := hts (.fieldLink RX1 37 "StaffHeads$Layout" "low" "[I") (List.mem_of_getElem? (i := 11) rfl)
  have f7 := hts (.methodLink RX1 195 Lib.Math.min.name) (List.mem_of_getElem? (i := 12) rfl)
  have f8 := hts (.static Lib.Math.min.name) (List.mem_of_getElem? (i := 13) rfl)
  have f9 := hts (.code Lib.Math.min.name Lib.Math.min.code 2 (some .int)) (List.mem_of_getElem? (i := 14) rfl)
  have f10 := hts (.fieldLink RX1 49 "StaffHeads$Layout" "mostMoved" "[I") (List.mem_of_getElem? (i := 15) rfl)
  have f11 := hts (.fieldLink RX1 165 "StaffHeads$Chord" "moved" "I") (List.mem_of_getElem? (i := 4) rfl)
  have f12 := hts (.fieldLink RX1 25 "StaffHeads$Layout" "moved" "[I") (List.mem_of_getElem? (i := 2) rfl)
  have f13 := hts (.fieldLink RX1 162 "StaffHeads$Chord" "heads" "[I") (List.mem_of_getElem? (i := 3) rfl)
  have f14 := hts (.fieldLink RX1 28 "StaffHeads$Layout" "chordSize" "[I") (List.mem_of_getElem? (i := 5) rfl)
  have hK1 : kK D [(cA, .int)] s := ⟨hK.1.sub [0] rfl, hK.2⟩
  refine lv_iconst (v := 0) hx hb dX1_keep_0 (by decide) ?_
  refine x_tp (y := nI 0) nI_0.symm ?_
  refine lv_istore_n (lv' := [(3, .int (nI 0)), (0, .ref (c 14)), (1, .ref q0), (2, .int (nI ce))]) hx hb dX1_keep_1 rfl hl (by decide) rfl (fun ls hl => ?_)
  refine lpW (G := fun ls H locs => W p _ e _ s mi _ below meth cd H locs _ _ _ (F0 mi 2 ls [])) 4 z (fun i (_ : Unit) => [(0, .ref (c 14)), (1, .ref q0), (2, .int (nI ce)), (3, .int (nI i))]) (fun i (_ : Unit) => lyW c cA cC sl l1 l2 l3 (cRow l4 M (nI mv) i) (cRow l5 M (nI z) i) C l7 l8 l9 l10 l11 l12 ++ kW q0 q1 cA z lw hg O U mv M) (fun _ _ => True) ?_ 0 () (Nat.zero_le _) trivial (lv_sub hl [1, 2, 3, 0] rfl) hP hD hS
  clear hl hP hD hS
  intro i gu hi hiI ls H locs hl hP hD hS ihi
  refine lv_iload_n hx hb dX1_keep_2 rfl (lv_at hl 3 rfl) ?_
  refine lv_aload_n hx hb dX1_keep_3 rfl (lv_at hl 1 rfl) ?_
  refine va_get (D := D) (ci := 0) (v := .int (nI z)) (C := RX0) (T := TX0) (N := 7) hx hb hts hiX00 hown hK.1 hP 14 rfl rfl 1 (by decide) f0 (fun _ h9 => h9) rfl dX1_keep_4 ?_
  refine x_nge (tgt := 46) hx hb dX1_keep_7 (by decide) (by omega) (by omega) (fun c_7 => ?_) (fun c_7 => ?_)
  · obtain rfl : z = i := by omega
    refine lv_aload_n hx hb dX1_keep_46 rfl (lv_at hl 0 rfl) ?_
    refine va_get (D := D) (ci := 1) (v := .ref (c 21)) (C := RX1) (T := TX1) (N := 15) hx hb hts hiX10 hown hK.1 hP 0 rfl rfl 7 (by decide) f1 (fun _ h9 => h9) rfl dX1_keep_47 ?_
    refine lv_iload_n hx hb dX1_keep_50 rfl (lv_at hl 2 rfl) ?_
    refine lv_aload_n hx hb dX1_keep_51 rfl (lv_at hl 0 rfl) ?_
    refine va_get (D := D) (ci := 1) (v := .ref (c 21)) (C := RX1) (T := TX1) (N := 15) hx hb hts hiX10 hown hK.1 hP 0 rfl rfl 7 (by decide) f1 (fun _ h9 => h9) rfl dX1_keep_52 ?_
    refine lv_iload_n hx hb dX1_keep_55 rfl (lv_at hl 2 rfl) ?_
    refine x_iald hx hb hK hP 7 0 rfl rfl (k := ce) (by omega) (by decide) dX1_keep_56 ?_
    refine lv_aload_n hx hb dX1_keep_57 rfl (lv_at hl 1 rfl) ?_
    refine rcVi (As := []) (rest := [.int (l7 ce), .int (nI ce), .ref (c 21)]) ⟨hx, hb, hml, hown, hts⟩ (k0_reachUp l0 D cA q0 q1 z lw hg O U mv M  ) (cwV 0 hts gX1_keep_X0_reachUp rfl rfl rfl (by decide +kernel) ⟨Nat.le_of_ble_eq_true rfl, Nat.le_of_ble_eq_true rfl⟩) (va_recv hK.1 hP (ci := 0) (q0 := 14) rfl rfl) (hP.sub [14, 15] rfl) hK1 rfl hl.1 rfl (Nat.le_of_ble_eq_true rfl) dX1_keep_58 ⟨Nat.zero_le _, Nat.zero_le _⟩ ?_
    refine va_mmax hx hb (hml.trans hl.1.symm) hown f2 f3 f4 f5 (Nat.le_of_ble_eq_true rfl) (Nat.le_of_ble_eq_true rfl) (Nat.zero_le _) (Nat.zero_le _) dX1_keep_61 ?_
    refine x_tp (y := mxI (l7 ce) (cI (U ∧ ¬ O) (mxI (hg + 7) 4) hg)) rfl ?_
    refine x_iast hx hb hK hP hD hS 7 0 rfl rfl (k := ce) (by omega) (by decide) dX1_keep_64 (fun H locs hP hD hS => ?_)
    have hP : va_P D vwCl (lyW c cA cC sl l1 l2 l3 (cRow l4 M (nI mv) z) (cRow l5 M (nI z) z) C (upd l7 ce (mxI (l7 ce) (cI (U ∧ ¬ O) (mxI (hg + 7) 4) hg))) l8 l9 l10 l11 l12 ++ kW q0 q1 cA z lw hg O U mv M) H := hP
    have hD : va_D (va_A (lyW c cA cC sl l1 l2 l3 l4 l5 C l7 l8 l9 l10 l11 l12 ++ kW q0 q1 cA z lw hg O U mv M) sz) (lyW c cA cC sl l1 l2 l3 (cRow l4 M (nI mv) z) (cRow l5 M (nI z) z) C (upd l7 ce (mxI (l7 ce) (cI (U ∧ ¬ O) (mxI (hg + 7) 4) hg))) l8 l9 l10 l11 l12 ++ kW q0 q1 cA z lw hg O U mv M) := hD
    refine lv_aload_n hx hb dX1_keep_65 rfl (lv_at hl 0 rfl) ?_
    refine va_get (D := D) (ci := 1) (v := .ref (c 22)) (C := RX1) (T := TX1) (N := 15) hx hb hts hiX10 hown hK.1 hP 0 rfl rfl 8 (by decide) f6 (fun _ h9 => h9) rfl dX1_keep_66 ?_
    refine lv_iload_n hx hb dX1_keep_69 rfl (lv_at hl 2 rfl) ?_
    refine lv_aload_n hx hb dX1_keep_70 rfl (lv_at hl 0 rfl) ?_
    refine va_get (D := D) (ci := 1) (v := .ref (c 22)) (C := RX1) (T := TX1) (N := 15) hx hb hts hiX10 hown hK.1 hP 0 rfl rfl 8 (by decide) f6 (fun _ h9 => h9) rfl dX1_keep_71 ?_
    refine lv_iload_n hx hb dX1_keep_74 rfl (lv_at hl 2 rfl) ?_
    refine x_iald hx hb hK hP 8 0 rfl rfl (k := ce) (by omega) (by decide) dX1_keep_75 ?_
    refine lv_aload_n hx hb dX1_keep_76 rfl (lv_at hl 1 rfl) ?_
    refine rcVi (As := []) (rest := [.int (l8 ce), .int (nI ce), .ref (c 22)]) ⟨hx, hb, hml, hown, hts⟩ (k0_reachDown l0 D cA q0 q1 z lw hg O U mv M  ) (cwV 0 hts gX1_keep_X0_reachDown rfl rfl rfl (by decide +kernel) ⟨Nat.le_of_ble_eq_true rfl, Nat.le_of_ble_eq_true rfl⟩) (va_recv hK.1 hP (ci := 0) (q0 := 14) rfl rfl) (hP.sub [14, 15] rfl) hK1 rfl hl.1 rfl (Nat.le_of_ble_eq_true rfl) dX1_keep_77 ⟨Nat.zero_le _, Nat.zero_le _⟩ ?_
    refine va_mmin hx hb (hml.trans hl.1.symm) hown f7 f8 f4 f9 (Nat.le_of_ble_eq_true rfl) (Nat.le_of_ble_eq_true rfl) (Nat.zero_le _) (Nat.zero_le _) dX1_keep_80 ?_
    refine x_tp (y := mnI (l8 ce) (cI (¬ U ∧ ¬ O) (mnI (lw - 7) 4) lw)) rfl ?_
    refine x_iast hx hb hK hP hD hS 8 0 rfl rfl (k := ce) (by omega) (by decide) dX1_keep_83 (fun H locs hP hD hS => ?_)
    have hP : va_P D vwCl (lyW c cA cC sl l1 l2 l3 (cRow l4 M (nI mv) z) (cRow l5 M (nI z) z) C (upd l7 ce (mxI (l7 ce) (cI (U ∧ ¬ O) (mxI (hg + 7) 4) hg))) (upd l8 ce (mnI (l8 ce) (cI (¬ U ∧ ¬ O) (mnI (lw - 7) 4) lw))) l9 l10 l11 l12 ++ kW q0 q1 cA z lw hg O U mv M) H := hP
    have hD : va_D (va_A (lyW c cA cC sl l1 l2 l3 l4 l5 C l7 l8 l9 l10 l11 l12 ++ kW q0 q1 cA z lw hg O U mv M) sz) (lyW c cA cC sl l1 l2 l3 (cRow l4 M (nI mv) z) (cRow l5 M (nI z) z) C (upd l7 ce (mxI (l7 ce) (cI (U ∧ ¬ O) (mxI (hg + 7) 4) hg))) (upd l8 ce (mnI (l8 ce) (cI (¬ U ∧ ¬ O) (mnI (lw - 7) 4) lw))) l9 l10 l11 l12 ++ kW q0 q1 cA z lw hg O U mv M) := hD
    refine lv_aload_n hx hb dX1_keep_84 rfl (lv_at hl 0 rfl) ?_
    refine va_get (D := D) (ci := 1) (v := .ref (c 26)) (C := RX1) (T := TX1) (N := 15) hx hb hts hiX10 hown hK.1 hP 0 rfl rfl 12 (by decide) f10 (fun _ h9 => h9) rfl dX1_keep_85 ?_
    refine lv_iload_n hx hb dX1_keep_88 rfl (lv_at hl 2 rfl) ?_
    refine lv_aload_n hx hb dX1_keep_89 rfl (lv_at hl 0 rfl) ?_
    refine va_get (D := D) (ci := 1) (v := .ref (c 26)) (C := RX1) (T := TX1) (N := 15) hx hb hts hiX10 hown hK.1 hP 0 rfl rfl 12 (by decide) f10 (fun _ h9 => h9) rfl dX1_keep_90 ?_
    refine lv_iload_n hx hb dX1_keep_93 rfl (lv_at hl 2 rfl) ?_
    refine x_iald hx hb hK hP 12 0 rfl rfl (k := ce) (by omega) (by decide) dX1_keep_94 ?_
    refine lv_aload_n hx hb dX1_keep_95 rfl (lv_at hl 1 rfl) ?_
    refine va_get (D := D) (ci := 0) (v := .int (nI mv)) (C := RX0) (T := TX0) (N := 7) hx hb hts hiX00 hown hK.1 hP 14 rfl rfl 6 (by decide) f11 (fun _ h9 => h9) rfl dX1_keep_96 ?_
    refine va_mmax hx hb (hml.trans hl.1.symm) hown f2 f3 f4 f5 (Nat.le_of_ble_eq_true rfl) (Nat.le_of_ble_eq_true rfl) (Nat.zero_le _) (Nat.zero_le _) dX1_keep_99 ?_
    refine x_tp (y := mxI (l12 ce) (nI mv)) rfl ?_
    refine x_iast hx hb hK hP hD hS 12 0 rfl rfl (k := ce) (by omega) (by decide) dX1_keep_102 (fun H locs hP hD hS => ?_)
    have hP : va_P D vwCl (lyW c cA cC sl l1 l2 l3 (cRow l4 M (nI mv) z) (cRow l5 M (nI z) z) C (upd l7 ce (mxI (l7 ce) (cI (U ∧ ¬ O) (mxI (hg + 7) 4) hg))) (upd l8 ce (mnI (l8 ce) (cI (¬ U ∧ ¬ O) (mnI (lw - 7) 4) lw))) l9 l10 l11 (upd l12 ce (mxI (l12 ce) (nI mv))) ++ kW q0 q1 cA z lw hg O U mv M) H := hP
    have hD : va_D (va_A (lyW c cA cC sl l1 l2 l3 l4 l5 C l7 l8 l9 l10 l11 l12 ++ kW q0 q1 cA z lw hg O U mv M) sz) (lyW c cA cC sl l1 l2 l3 (cRow l4 M (nI mv) z) (cRow l5 M (nI z) z) C (upd l7 ce (mxI (l7 ce) (cI (U ∧ ¬ O) (mxI (hg + 7) 4) hg))) (upd l8 ce (mnI (l8 ce) (cI (¬ U ∧ ¬ O) (mnI (lw - 7) 4) lw))) l9 l10 l11 (upd l12 ce (mxI (l12 ce) (nI mv))) ++ kW q0 q1 cA z lw hg O U mv M) := hD
    exact w_vret () hx hb hr hlk hP hD hS (trivial) dX1_keep_103
  · have hMi := hM i c_7
    refine lv_aload_n hx hb dX1_keep_10 rfl (lv_at hl 0 rfl) ?_
    refine va_get (D := D) (ci := 1) (v := .ref (c 18)) (C := RX1) (T := TX1) (N := 15) hx hb hts hiX10 hown hK.1 hP 0 rfl rfl 4 (by decide) f12 (fun _ h9 => h9) rfl dX1_keep_11 ?_
    refine lv_aload_n hx hb dX1_keep_14 rfl (lv_at hl 1 rfl) ?_
    refine va_get (D := D) (ci := 0) (v := .ref q1) (C := RX0) (T := TX0) (N := 7) hx hb hts hiX00 hown hK.1 hP 14 rfl rfl 0 (by decide) f13 (fun _ h9 => h9) rfl dX1_keep_15 ?_
    refine lv_iload_n hx hb dX1_keep_18 rfl (lv_at hl 3 rfl) ?_
    refine x_iald hx hb hK hP 15 0 rfl rfl (k := i) (by omega) (by decide) dX1_keep_19 ?_
    refine lv_aload_n hx hb dX1_keep_20 rfl (lv_at hl 1 rfl) ?_
    refine va_get (D := D) (ci := 0) (v := .int (nI mv)) (C := RX0) (T := TX0) (N := 7) hx hb hts hiX00 hown hK.1 hP 14 rfl rfl 6 (by decide) f11 (fun _ h9 => h9) rfl dX1_keep_21 ?_
    refine x_iast hx hb hK hP hD hS 4 0 rfl rfl (k := (M i)) (by omega) (by decide) dX1_keep_24 (fun H locs hP hD hS => ?_)
    have hP : va_P D vwCl (lyW c cA cC sl l1 l2 l3 (upd (cRow l4 M (nI mv) i) (M i) (nI mv)) (cRow l5 M (nI z) i) C l7 l8 l9 l10 l11 l12 ++ kW q0 q1 cA z lw hg O U mv M) H := hP
    have hD : va_D (va_A (lyW c cA cC sl l1 l2 l3 l4 l5 C l7 l8 l9 l10 l11 l12 ++ kW q0 q1 cA z lw hg O U mv M) sz) (lyW c cA cC sl l1 l2 l3 (upd (cRow l4 M (nI mv) i) (M i) (nI mv)) (cRow l5 M (nI z) i) C l7 l8 l9 l10 l11 l12 ++ kW q0 q1 cA z lw hg O U mv M) := hD
    refine lv_aload_n hx hb dX1_keep_25 rfl (lv_at hl 0 rfl) ?_
    refine va_get (D := D) (ci := 1) (v := .ref (c 19)) (C := RX1) (T := TX1) (N := 15) hx hb hts hiX10 hown hK.1 hP 0 rfl rfl 5 (by decide) f14 (fun _ h9 => h9) rfl dX1_keep_26 ?_
    refine lv_aload_n hx hb dX1_keep_29 rfl (lv_at hl 1 rfl) ?_
    refine va_get (D := D) (ci := 0) (v := .ref q1) (C := RX0) (T := TX0) (N := 7) hx hb hts hiX00 hown hK.1 hP 14 rfl rfl 0 (by decide) f13 (fun _ h9 => h9) rfl dX1_keep_30 ?_
    refine lv_iload_n hx hb dX1_keep_33 rfl (lv_at hl 3 rfl) ?_
    refine x_iald hx hb hK hP 15 0 rfl rfl (k := i) (by omega) (by decide) dX1_keep_34 ?_
    refine lv_aload_n hx hb dX1_keep_35 rfl (lv_at hl 1 rfl) ?_
    refine va_get (D := D) (ci := 0) (v := .int (nI z)) (C := RX0) (T := TX0) (N := 7) hx hb hts hiX00 hown hK.1 hP 14 rfl rfl 1 (by decide) f0 (fun _ h9 => h9) rfl dX1_keep_36 ?_
    refine x_iast hx hb hK hP hD hS 5 0 rfl rfl (k := (M i)) (by omega) (by decide) dX1_keep_39 (fun H locs hP hD hS => ?_)
    have hP : va_P D vwCl (lyW c cA cC sl l1 l2 l3 (upd (cRow l4 M (nI mv) i) (M i) (nI mv)) (upd (cRow l5 M (nI z) i) (M i) (nI z)) C l7 l8 l9 l10 l11 l12 ++ kW q0 q1 cA z lw hg O U mv M) H := hP
    have hD : va_D (va_A (lyW c cA cC sl l1 l2 l3 l4 l5 C l7 l8 l9 l10 l11 l12 ++ kW q0 q1 cA z lw hg O U mv M) sz) (lyW c cA cC sl l1 l2 l3 (upd (cRow l4 M (nI mv) i) (M i) (nI mv)) (upd (cRow l5 M (nI z) i) (M i) (nI z)) C l7 l8 l9 l10 l11 l12 ++ kW q0 q1 cA z lw hg O U mv M) := hD
    have hP : va_P D vwCl (lyW c cA cC sl l1 l2 l3 (cRow l4 M (nI mv) (i + 1)) (cRow l5 M (nI z) (i + 1)) C l7 l8 l9 l10 l11 l12 ++ kW q0 q1 cA z lw hg O U mv M) H := hP
    have hD : va_D (va_A (lyW c cA cC sl l1 l2 l3 l4 l5 C l7 l8 l9 l10 l11 l12 ++ kW q0 q1 cA z lw hg O U mv M) sz) (lyW c cA cC sl l1 l2 l3 (cRow l4 M (nI mv) (i + 1)) (cRow l5 M (nI z) (i + 1)) C l7 l8 l9 l10 l11 l12 ++ kW q0 q1 cA z lw hg O U mv M) := hD
    refine lv_iinc (v := nI (i + 1)) (lv' := [(3, .int (nI (i + 1))), (0, .ref (c 14)), (1, .ref q0), (2, .int (nI ce))]) hx hb dX1_keep_40 hl (k := 3) rfl (x_inc i) (by decide) rfl (fun ls hl => ?_)
    refine lv_goto (tgt := 2) hx hb dX1_keep_43 (by decide) ?_
    exact ihi (by omega) () _ _ _ trivial (lv_sub hl [1, 2, 3, 0] rfl) hP hD hS

