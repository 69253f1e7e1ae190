set_option maxHeartbeats 4000000 in
set_option maxRecDepth 100000 in
theorem k1_clear (l0 : Launch) (D : va_G) (c : Nat → Nat) (cA cC : ClassId) (sl : Prop) (l1 l2 l3 l4 l5 : Nat → Int32) (C : Nat → Nat) (l7 l8 l9 l10 l11 l12 : Nat → Int32) (sz : Nat) : Met l0 yX1_clear wsX1_clear ({ frames := 1, cells := 0, slots := 0, locals := 23 }) (wPc D (lyW c cA cC sl l1 l2 l3 l4 l5 C l7 l8 l9 l10 l11 l12) [(cA, .int), (cC, .object "StaffHeads$Chord")] sz [.ref (c 14)]) (va_Qv (fun X : (Nat → Nat → Int32) × (Nat → Nat) => (∀ j, j < 60 → X.2 j = 0) ∧ (∀ j, j < 400 → X.1 7 j = 8) ∧ (∀ j, j < 400 → X.1 8 j = 0) ∧ (∀ j, j < 400 → X.1 9 j = 0) ∧ (∀ j, j < 400 → X.1 10 j = 0) ∧ (∀ j, j < 400 → X.1 11 j = 0) ∧ (∀ j, j < 400 → X.1 12 j = 0)) (wB D (lyW c cA cC sl l1 l2 l3 l4 l5 C l7 l8 l9 l10 l11 l12) sz (fun X => lyW c cA cC sl l1 l2 l3 l4 l5 X.2 (X.1 7) (X.1 8) (X.1 9) (X.1 10) (X.1 11) (X.1 12))) (va_A (lyW c cA cC sl l1 l2 l3 l4 l5 C l7 l8 l9 l10 l11 l12) sz)) 0 0 (va_A (lyW c cA cC sl l1 l2 l3 l4 l5 C l7 l8 l9 l10 l11 l12) sz) := by
  refine w_head (C := RX1) (cc := cX1_clear) (maxL := 1) (ret := none) [(0, .ref (c 14))] (by decide) rfl rfl (Nat.le_of_ble_eq_true rfl) rfl ?_
  intro p e s mi below meth cd hx hb hr hlk hml hown hin hts hP hD hS hA hK ls hl
  have hiX10 : ∀ w ∈ wsX10, w ∈ wsX1_clear := fun w h => List.mem_cons_of_mem _ (List.mem_append_right _ h)
  have f0 := hts (.fieldLink RX1 31 "StaffHeads$Layout" "signColumn" "[I") (List.mem_of_getElem? (i := 1) rfl)
  have f1 := hts (.fieldLink RX1 34 "StaffHeads$Layout" "high" "[I") (List.mem_of_getElem? (i := 2) rfl)
  have f2 := hts (.fieldLink RX1 37 "StaffHeads$Layout" "low" "[I") (List.mem_of_getElem? (i := 3) rfl)
  have f3 := hts (.fieldLink RX1 40 "StaffHeads$Layout" "noteCount" "[I") (List.mem_of_getElem? (i := 4) rfl)
  have f4 := hts (.fieldLink RX1 43 "StaffHeads$Layout" "chordCount" "[I") (List.mem_of_getElem? (i := 5) rfl)
  have f5 := hts (.fieldLink RX1 46 "StaffHeads$Layout" "signColumns" "[I") (List.mem_of_getElem? (i := 6) rfl)
  have f6 := hts (.fieldLink RX1 49 "StaffHeads$Layout" "mostMoved" "[I") (List.mem_of_getElem? (i := 7) rfl)
  have hK1 : kK D [(cA, .int)] s := ⟨hK.1.sub [0] rfl, hK.2⟩
  refine lv_aload_n hx hb dX1_clear_0 rfl (lv_at hl 0 rfl) ?_
  refine va_get (D := D) (ci := 1) (v := .ref (c 20)) (C := RX1) (T := TX1) (N := 15) hx hb hts hiX10 hown hK.1 hP 0 rfl rfl 6 (by decide) f0 (fun _ h9 => h9) rfl dX1_clear_1 ?_
  refine lv_iconst (v := 0) hx hb dX1_clear_4 (by decide) ?_
  refine x_tp (y := nI 0) nI_0.symm ?_
  refine wxSv (S0 := Nat → Nat) (As := [.ref (c 20), .int (nI 0)]) (rest := []) ⟨hx, hb, hml, hown, hts⟩ (k7_fillN l0 D cA (c 20) 60 C 0 _ (by decide)) (va_cwS 2 hts gX1_clear_J7_fill_53178 rfl rfl rfl (by decide +kernel) ⟨Nat.le_of_ble_eq_true rfl, Nat.le_of_ble_eq_true rfl⟩) hP hD hS hA hK1 [6] [0, 1, 2, 3, 4, 5, 7, 8, 9, 10, 11, 12, 13] rfl 14 rfl (by decide) (by decide) (by decide) (by decide) rfl hl.1 rfl (Nat.le_of_ble_eq_true rfl) dX1_clear_5 ⟨Nat.zero_le _, Nat.zero_le _⟩ (fun C2 H locs hC2 hP hD hS => ?_)
  have hP : va_P D vwCl (lyW c cA cC sl l1 l2 l3 l4 l5 C2 l7 l8 l9 l10 l11 l12) H := hP.sub [0, 1, 2, 3, 4, 5, 13, 6, 7, 8, 9, 10, 11, 12] rfl
  have hD : va_D (va_A (lyW c cA cC sl l1 l2 l3 l4 l5 C l7 l8 l9 l10 l11 l12) sz) (lyW c cA cC sl l1 l2 l3 l4 l5 C2 l7 l8 l9 l10 l11 l12) := hD.sub [0, 1, 2, 3, 4, 5, 13, 6, 7, 8, 9, 10, 11, 12] (by decide) rfl
  refine lv_aload_n hx hb dX1_clear_8 rfl (lv_at hl 0 rfl) ?_
  refine va_get (D := D) (ci := 1) (v := .ref (c 21)) (C := RX1) (T := TX1) (N := 15) hx hb hts hiX10 hown hK.1 hP 0 rfl rfl 7 (by decide) f1 (fun _ h9 => h9) rfl dX1_clear_9 ?_
  refine lv_bipush (v := 8) hx hb dX1_clear_12 (by decide) ?_
  refine wxSv (S0 := Nat → Int32) (As := [.ref (c 21), .int 8]) (rest := []) ⟨hx, hb, hml, hown, hts⟩ (k7_fillP l0 D cA (c 21) 400 l7 8 _ (by decide)) (va_cwS 2 hts gX1_clear_J7_fill_53178 rfl rfl rfl (by decide +kernel) ⟨Nat.le_of_ble_eq_true rfl, Nat.le_of_ble_eq_true rfl⟩) hP hD hS hA hK1 [7] [0, 1, 2, 3, 4, 5, 6, 8, 9, 10, 11, 12, 13] rfl 14 rfl (by decide) (by decide) (by decide) (by decide) rfl hl.1 rfl (Nat.le_of_ble_eq_true rfl) dX1_clear_14 ⟨Nat.zero_le _, Nat.zero_le _⟩ (fun R7 H locs hR7 hP hD hS => ?_)
  have hP : va_P D vwCl (lyW c cA cC sl l1 l2 l3 l4 l5 C2 R7 l8 l9 l10 l11 l12) H := hP.sub [0, 1, 2, 3, 4, 5, 6, 13, 7, 8, 9, 10, 11, 12] rfl
  have hD : va_D (va_A (lyW c cA cC sl l1 l2 l3 l4 l5 C l7 l8 l9 l10 l11 l12) sz) (lyW c cA cC sl l1 l2 l3 l4 l5 C2 R7 l8 l9 l10 l11 l12) := hD.sub [0, 1, 2, 3, 4, 5, 6, 13, 7, 8, 9, 10, 11, 12] (by decide) rfl
  refine lv_aload_n hx hb dX1_clear_17 rfl (lv_at hl 0 rfl) ?_
  refine va_get (D := D) (ci := 1) (v := .ref (c 22)) (C := RX1) (T := TX1) (N := 15) hx hb hts hiX10 hown hK.1 hP 0 rfl rfl 8 (by decide) f2 (fun _ h9 => h9) rfl dX1_clear_18 ?_
  refine lv_iconst (v := 0) hx hb dX1_clear_21 (by decide) ?_
  refine wxSv (S0 := Nat → Int32) (As := [.ref (c 22), .int 0]) (rest := []) ⟨hx, hb, hml, hown, hts⟩ (k7_fillP l0 D cA (c 22) 400 l8 0 _ (by decide)) (va_cwS 2 hts gX1_clear_J7_fill_53178 rfl rfl rfl (by decide +kernel) ⟨Nat.le_of_ble_eq_true rfl, Nat.le_of_ble_eq_true rfl⟩) hP hD hS hA hK1 [8] [0, 1, 2, 3, 4, 5, 6, 7, 9, 10, 11, 12, 13] rfl 14 rfl (by decide) (by decide) (by decide) (by decide) rfl hl.1 rfl (Nat.le_of_ble_eq_true rfl) dX1_clear_22 ⟨Nat.zero_le _, Nat.zero_le _⟩ (fun R8 H locs hR8 hP hD hS => ?_)
  have hP : va_P D vwCl (lyW c cA cC sl l1 l2 l3 l4 l5 C2 R7 R8 l9 l10 l11 l12) H := hP.sub [0, 1, 2, 3, 4, 5, 6, 7, 13, 8, 9, 10, 11, 12] rfl
  have hD : va_D (va_A (lyW c cA cC sl l1 l2 l3 l4 l5 C l7 l8 l9 l10 l11 l12) sz) (lyW c cA cC sl l1 l2 l3 l4 l5 C2 R7 R8 l9 l10 l11 l12) := hD.sub [0, 1, 2, 3, 4, 5, 6, 7, 13, 8, 9, 10, 11, 12] (by decide) rfl
  refine lv_aload_n hx hb dX1_clear_25 rfl (lv_at hl 0 rfl) ?_
  refine va_get (D := D) (ci := 1) (v := .ref (c 23)) (C := RX1) (T := TX1) (N := 15) hx hb hts hiX10 hown hK.1 hP 0 rfl rfl 9 (by decide) f3 (fun _ h9 => h9) rfl dX1_clear_26 ?_
  refine lv_iconst (v := 0) hx hb dX1_clear_29 (by decide) ?_
  refine wxSv (S0 := Nat → Int32) (As := [.ref (c 23), .int 0]) (rest := []) ⟨hx, hb, hml, hown, hts⟩ (k7_fillP l0 D cA (c 23) 400 l9 0 _ (by decide)) (va_cwS 2 hts gX1_clear_J7_fill_53178 rfl rfl rfl (by decide +kernel) ⟨Nat.le_of_ble_eq_true rfl, Nat.le_of_ble_eq_true rfl⟩) hP hD hS hA hK1 [9] [0, 1, 2, 3, 4, 5, 6, 7, 8, 10, 11, 12, 13] rfl 14 rfl (by decide) (by decide) (by decide) (by decide) rfl hl.1 rfl (Nat.le_of_ble_eq_true rfl) dX1_clear_30 ⟨Nat.zero_le _, Nat.zero_le _⟩ (fun R9 H locs hR9 hP hD hS => ?_)
  have hP : va_P D vwCl (lyW c cA cC sl l1 l2 l3 l4 l5 C2 R7 R8 R9 l10 l11 l12) H := hP.sub [0, 1, 2, 3, 4, 5, 6, 7, 8, 13, 9, 10, 11, 12] rfl
  have hD : va_D (va_A (lyW c cA cC sl l1 l2 l3 l4 l5 C l7 l8 l9 l10 l11 l12) sz) (lyW c cA cC sl l1 l2 l3 l4 l5 C2 R7 R8 R9 l10 l11 l12) := hD.sub [0, 1, 2, 3, 4, 5, 6, 7, 8, 13, 9, 10, 11, 12] (by decide) rfl
  refine lv_aload_n hx hb dX1_clear_33 rfl (lv_at hl 0 rfl) ?_
  refine va_get (D := D) (ci := 1) (v := .ref (c 24)) (C := RX1) (T := TX1) (N := 15) hx hb hts hiX10 hown hK.1 hP 0 rfl rfl 10 (by decide) f4 (fun _ h9 => h9) rfl dX1_clear_34 ?_
  refine lv_iconst (v := 0) hx hb dX1_clear_37 (by decide) ?_
  refine wxSv (S0 := Nat → Int32) (As := [.ref (c 24), .int 0]) (rest := []) ⟨hx, hb, hml, hown, hts⟩ (k7_fillP l0 D cA (c 24) 400 l10 0 _ (by decide)) (va_cwS 2 hts gX1_clear_J7_fill_53178 rfl rfl rfl (by decide +kernel) ⟨Nat.le_of_ble_eq_true rfl, Nat.le_of_ble_eq_true rfl⟩) hP hD hS hA hK1 [10] [0, 1, 2, 3, 4, 5, 6, 7, 8, 9, 11, 12, 13] rfl 14 rfl (by decide) (by decide) (by decide) (by decide) rfl hl.1 rfl (Nat.le_of_ble_eq_true rfl) dX1_clear_38 ⟨Nat.zero_le _, Nat.zero_le _⟩ (fun R10 H locs hR10 hP hD hS => ?_)
  have hP : va_P D vwCl (lyW c cA cC sl l1 l2 l3 l4 l5 C2 R7 R8 R9 R10 l11 l12) H := hP.sub [0, 1, 2, 3, 4, 5, 6, 7, 8, 9, 13, 10, 11, 12] rfl
  have hD : va_D (va_A (lyW c cA cC sl l1 l2 l3 l4 l5 C l7 l8 l9 l10 l11 l12) sz) (lyW c cA cC sl l1 l2 l3 l4 l5 C2 R7 R8 R9 R10 l11 l12) := hD.sub [0, 1, 2, 3, 4, 5, 6, 7, 8, 9, 13, 10, 11, 12] (by decide) rfl
  refine lv_aload_n hx hb dX1_clear_41 rfl (lv_at hl 0 rfl) ?_
  refine va_get (D := D) (ci := 1) (v := .ref (c 25)) (C := RX1) (T := TX1) (N := 15) hx hb hts hiX10 hown hK.1 hP 0 rfl rfl 11 (by decide) f5 (fun _ h9 => h9) rfl dX1_clear_42 ?_
  refine lv_iconst (v := 0) hx hb dX1_clear_45 (by decide) ?_
  refine wxSv (S0 := Nat → Int32) (As := [.ref (c 25), .int 0]) (rest := []) ⟨hx, hb, hml, hown, hts⟩ (k7_fillP l0 D cA (c 25) 400 l11 0 _ (by decide)) (va_cwS 2 hts gX1_clear_J7_fill_53178 rfl rfl rfl (by decide +kernel) ⟨Nat.le_of_ble_eq_true rfl, Nat.le_of_ble_eq_true rfl⟩) hP hD hS hA hK1 [11] [0, 1, 2, 3, 4, 5, 6, 7, 8, 9, 10, 12, 13] rfl 14 rfl (by decide) (by decide) (by decide) (by decide) rfl hl.1 rfl (Nat.le_of_ble_eq_true rfl) dX1_clear_46 ⟨Nat.zero_le _, Nat.zero_le _⟩ (fun R11 H locs hR11 hP hD hS => ?_)
  have hP : va_P D vwCl (lyW c cA cC sl l1 l2 l3 l4 l5 C2 R7 R8 R9 R10 R11 l12) H := hP.sub [0, 1, 2, 3, 4, 5, 6, 7, 8, 9, 10, 13, 11, 12] rfl
  have hD : va_D (va_A (lyW c cA cC sl l1 l2 l3 l4 l5 C l7 l8 l9 l10 l11 l12) sz) (lyW c cA cC sl l1 l2 l3 l4 l5 C2 R7 R8 R9 R10 R11 l12) := hD.sub [0, 1, 2, 3, 4, 5, 6, 7, 8, 9, 10, 13, 11, 12] (by decide) rfl
  refine lv_aload_n hx hb dX1_clear_49 rfl (lv_at hl 0 rfl) ?_
  refine va_get (D := D) (ci := 1) (v := .ref (c 26)) (C := RX1) (T := TX1) (N := 15) hx hb hts hiX10 hown hK.1 hP 0 rfl rfl 12 (by decide) f6 (fun _ h9 => h9) rfl dX1_clear_50 ?_
  refine lv_iconst (v := 0) hx hb dX1_clear_53 (by decide) ?_
  refine wxSv (S0 := Nat → Int32) (As := [.ref (c 26), .int 0]) (rest := []) ⟨hx, hb, hml, hown, hts⟩ (k7_fillP l0 D cA (c 26) 400 l12 0 _ (by decide)) (va_cwS 2 hts gX1_clear_J7_fill_53178 rfl rfl rfl (by decide +kernel) ⟨Nat.le_of_ble_eq_true rfl, Nat.le_of_ble_eq_true rfl⟩) hP hD hS hA hK1 [12] [0, 1, 2, 3, 4, 5, 6, 7, 8, 9, 10, 11, 13] rfl 14 rfl (by decide) (by decide) (by decide) (by decide) rfl hl.1 rfl (Nat.le_of_ble_eq_true rfl) dX1_clear_54 ⟨Nat.zero_le _, Nat.zero_le _⟩ (fun R12 H locs hR12 hP hD hS => ?_)
  have hP : va_P D vwCl (lyW c cA cC sl l1 l2 l3 l4 l5 C2 R7 R8 R9 R10 R11 R12) H := hP.sub [0, 1, 2, 3, 4, 5, 6, 7, 8, 9, 10, 11, 13, 12] rfl
  have hD : va_D (va_A (lyW c cA cC sl l1 l2 l3 l4 l5 C l7 l8 l9 l10 l11 l12) sz) (lyW c cA cC sl l1 l2 l3 l4 l5 C2 R7 R8 R9 R10 R11 R12) := hD.sub [0, 1, 2, 3, 4, 5, 6, 7, 8, 9, 10, 11, 13, 12] (by decide) rfl
  exact w_vret (S0 := (Nat → Nat → Int32) × (Nat → Nat)) (w1 := fun X => lyW c cA cC sl l1 l2 l3 l4 l5 X.2 (X.1 7) (X.1 8) (X.1 9) (X.1 10) (X.1 11) (X.1 12)) (fun r => if r = 7 then R7 else if r = 8 then R8 else if r = 9 then R9 else if r = 10 then R10 else if r = 11 then R11 else R12, C2) hx hb hr hlk hP hD hS ⟨hC2, hR7, hR8, hR9, hR10, hR11, hR12⟩ dX1_clear_57

set_option maxHeartbeats 4000000 in
set_option maxRecDepth 100000 in
theorem k1_keep (l0 : Launch) (D : va_G) (c : Nat → Nat) (cA cC : ClassId) (sl : Prop) (l1 l2 l3 l4 l5 : Nat → Int32) (C : Nat → Nat) (l7 l8 l9 l10 l11 l12 : Nat → Int32) (q0 q1 z : Nat) (lw hg : Int32) (O U : Prop) (mv : Nat) (M : Nat → Nat) (ce sz : Nat) (hce : ce < 400) (hz : z ≤ 60) (hM : ∀ i, i < z → M i < 60) : Met l0 yX1_keep wsX1_keep ({ frames := 2, cells := 0, slots := 0, locals := 41 }) (wPc D (lyW c cA cC sl l1 l2 l3 l4 l5 C l7 l8 l9 l10 l11 l12 ++ kW q0 q1 cA z lw hg O U mv M) [(cA, .int), (cC, .object "StaffHeads$Chord")] sz [.ref (c 14), .ref q0, .int (nI ce)]) (va_Qv (fun _ : Unit => True) (wB D (lyW c cA cC sl l1 l2 l3 l4 l5 C l7 l8 l9 l10 l11 l12 ++ kW q0 q1 cA z lw hg O U mv M) sz (fun _ => lyW c cA cC sl l1 l2 l3 (cRow l4 M (nI mv) z) (cRow l5 M (nI z) z) C (upd l7 ce (mxI (l7 ce) (cI (U ∧ ¬ O) (mxI (hg + 7) 4) hg))) (upd l8 ce (mnI (l8 ce) (cI (¬ U ∧ ¬ O) (mnI (lw - 7) 4) lw))) l9 l10 l11 (upd l12 ce (mxI (l12 ce) (nI mv))) ++ kW q0 q1 cA z lw hg O U mv M)) (va_A (lyW c cA cC sl l1 l2 l3 l4 l5 C l7 l8 l9 l10 l11 l12 ++ kW q0 q1 cA z lw hg O U mv M) sz)) 0 0 (va_A (lyW c cA cC sl l1 l2 l3 l4 l5 C l7 l8 l9 l10 l11 l12 ++ kW q0 q1 cA z lw hg O U mv M) sz) := by
  refine w_head (C := RX1) (cc := cX1_keep) (maxL := 4) (ret := none) [(0, .ref (c 14)), (1, .ref q0), (2, .int (nI ce))] (by decide) rfl rfl (Nat.le_of_ble_eq_true rfl) rfl ?_
  intro p e s mi below meth cd hx hb hr hlk hml hown hin hts hP hD hS hA hK ls hl
  have hiX00 : ∀ w ∈ wsX00, w ∈ wsX1_keep := fun w h => List.mem_cons_of_mem _ (List.mem_append_left _ (List.mem_append_right _ h))
  have hiX10 : ∀ w ∈ wsX10, w ∈ wsX1_keep := fun w h => List.mem_cons_of_mem _ (List.mem_append_right _ h)
  have f0 := hts (.fieldLink RX1 123 "StaffHeads$Chord" "size" "I") (List.mem_of_getElem? (i := 1) rfl)
  have f1 := hts (.fieldLink RX1 34 "StaffHeads$Layout" "high" "[I") (List.mem_of_getElem? (i := 6) rfl)
  have f2 := hts (.methodLink RX1 189 Lib.Math.max.name) (List.mem_of_getElem? (i := 7) rfl)
  have f3 := hts (.static Lib.Math.max.name) (List.mem_of_getElem? (i := 8) rfl)
  have f4 := hts (.initialized "java/lang/Math") (List.mem_of_getElem? (i := 9) rfl)
  have f5 := hts (.code Lib.Math.max.name Lib.Math.max.code 2 (some .int)) (List.mem_of_getElem? (i := 10) rfl)
  have f6 := hts (.fieldLink RX1 37 "StaffHeads$Layout" "low" "[I") (List.mem_of_getElem? (i := 11) rfl)
  have f7 := hts (.methodLink RX1 195 Lib.Math.min.name) (List.mem_of_getElem? (i := 12) rfl)
  have f8 := hts (.static Lib.Math.min.name) (List.mem_of_getElem? (i := 13) rfl)
  have f9 := hts (.code Lib.Math.min.name Lib.Math.min.code 2 (some .int)) (List.mem_of_getElem? (i := 14) rfl)
  have f10 := hts (.fieldLink RX1 49 "StaffHeads$Layout" "mostMoved" "[I") (List.mem_of_getElem? (i := 15) rfl)
  have f11 := hts (.fieldLink RX1 165 "StaffHeads$Chord" "moved" "I") (List.mem_of_getElem? (i := 4) rfl)
  have f12 := hts (.fieldLink RX1 25 "StaffHeads$Layout" "moved" "[I") (List.mem_of_getElem? (i := 2) rfl)
  have f13 := hts (.fieldLink RX1 162 "StaffHeads$Chord" "heads" "[I") (List.mem_of_getElem? (i := 3) rfl)
  have f14 := hts (.fieldLink RX1 28 "StaffHeads$Layout" "chordSize" "[I") (List.mem_of_getElem? (i := 5) rfl)
  have hK1 : kK D [(cA, .int)] s := ⟨hK.1.sub [0] rfl, hK.2⟩
  refine lv_iconst (v := 0) hx hb dX1_keep_0 (by decide) ?_
  refine x_tp (y := nI 0) nI_0.symm ?_
  refine lv_istore_n (lv' := [(3, .int (nI 0)), (0, .ref (c 14)), (1, .ref q0), (2, .int (nI ce))]) hx hb dX1_keep_1 rfl hl (by decide) rfl (fun ls hl => ?_)
  refine lpW (G := fun ls H locs => W p _ e _ s mi _ below meth cd H locs _ _ _ (F0 mi 2 ls [])) 4 z (fun i (_ : Unit) => [(0, .ref (c 14)), (1, .ref q0), (2, .int (nI ce)), (3, .int (nI i))]) (fun i (_ : Unit) => lyW c cA cC sl l1 l2 l3 (cRow l4 M (nI mv) i) (cRow l5 M (nI z) i) C l7 l8 l9 l10 l11 l12 ++ kW q0 q1 cA z lw hg O U mv M) (fun _ _ => True) ?_ 0 () (Nat.zero_le _) trivial (lv_sub hl [1, 2, 3, 0] rfl) hP hD hS
  clear hl hP hD hS
  intro i gu hi hiI ls H locs hl hP hD hS ihi
  refine lv_iload_n hx hb dX1_keep_2 rfl (lv_at hl 3 rfl) ?_
  refine lv_aload_n hx hb dX1_keep_3 rfl (lv_at hl 1 rfl) ?_
  refine va_get (D := D) (ci := 0) (v := .int (nI z)) (C := RX0) (T := TX0) (N := 7) hx hb hts hiX00 hown hK.1 hP 14 rfl rfl 1 (by decide) f0 (fun _ h9 => h9) rfl dX1_keep_4 ?_
  refine x_nge (tgt := 46) hx hb dX1_keep_7 (by decide) (by omega) (by omega) (fun c_7 => ?_) (fun c_7 => ?_)
  · obtain rfl : z = i := by omega
    refine lv_aload_n hx hb dX1_keep_46 rfl (lv_at hl 0 rfl) ?_
    refine va_get (D := D) (ci := 1) (v := .ref (c 21)) (C := RX1) (T := TX1) (N := 15) hx hb hts hiX10 hown hK.1 hP 0 rfl rfl 7 (by decide) f1 (fun _ h9 => h9) rfl dX1_keep_47 ?_
    refine lv_iload_n hx hb dX1_keep_50 rfl (lv_at hl 2 rfl) ?_
    refine lv_aload_n hx hb dX1_keep_51 rfl (lv_at hl 0 rfl) ?_
    refine va_get (D := D) (ci := 1) (v := .ref (c 21)) (C := RX1) (T := TX1) (N := 15) hx hb hts hiX10 hown hK.1 hP 0 rfl rfl 7 (by decide) f1 (fun _ h9 => h9) rfl dX1_keep_52 ?_
    refine lv_iload_n hx hb dX1_keep_55 rfl (lv_at hl 2 rfl) ?_
    refine x_iald hx hb hK hP 7 0 rfl rfl (k := ce) (by omega) (by decide) dX1_keep_56 ?_
    refine lv_aload_n hx hb dX1_keep_57 rfl (lv_at hl 1 rfl) ?_
    refine rcVi (As := []) (rest := [.int (l7 ce), .int (nI ce), .ref (c 21)]) ⟨hx, hb, hml, hown, hts⟩ (k0_reachUp l0 D cA q0 q1 z lw hg O U mv M  ) (cwV 0 hts gX1_keep_X0_reachUp rfl rfl rfl (by decide +kernel) ⟨Nat.le_of_ble_eq_true rfl, Nat.le_of_ble_eq_true rfl⟩) (va_recv hK.1 hP (ci := 0) (q0 := 14) rfl rfl) (hP.sub [14, 15] rfl) hK1 rfl hl.1 rfl (Nat.le_of_ble_eq_true rfl) dX1_keep_58 ⟨Nat.zero_le _, Nat.zero_le _⟩ ?_
    refine va_mmax hx hb (hml.trans hl.1.symm) hown f2 f3 f4 f5 (Nat.le_of_ble_eq_true rfl) (Nat.le_of_ble_eq_true rfl) (Nat.zero_le _) (Nat.zero_le _) dX1_keep_61 ?_
    refine x_tp (y := mxI (l7 ce) (cI (U ∧ ¬ O) (mxI (hg + 7) 4) hg)) rfl ?_
    refine x_iast hx hb hK hP hD hS 7 0 rfl rfl (k := ce) (by omega) (by decide) dX1_keep_64 (fun H locs hP hD hS => ?_)
    have hP : va_P D vwCl (lyW c cA cC sl l1 l2 l3 (cRow l4 M (nI mv) z) (cRow l5 M (nI z) z) C (upd l7 ce (mxI (l7 ce) (cI (U ∧ ¬ O) (mxI (hg + 7) 4) hg))) l8 l9 l10 l11 l12 ++ kW q0 q1 cA z lw hg O U mv M) H := hP
    have hD : va_D (va_A (lyW c cA cC sl l1 l2 l3 l4 l5 C l7 l8 l9 l10 l11 l12 ++ kW q0 q1 cA z lw hg O U mv M) sz) (lyW c cA cC sl l1 l2 l3 (cRow l4 M (nI mv) z) (cRow l5 M (nI z) z) C (upd l7 ce (mxI (l7 ce) (cI (U ∧ ¬ O) (mxI (hg + 7) 4) hg))) l8 l9 l10 l11 l12 ++ kW q0 q1 cA z lw hg O U mv M) := hD
    refine lv_aload_n hx hb dX1_keep_65 rfl (lv_at hl 0 rfl) ?_
    refine va_get (D := D) (ci := 1) (v := .ref (c 22)) (C := RX1) (T := TX1) (N := 15) hx hb hts hiX10 hown hK.1 hP 0 rfl rfl 8 (by decide) f6 (fun _ h9 => h9) rfl dX1_keep_66 ?_
    refine lv_iload_n hx hb dX1_keep_69 rfl (lv_at hl 2 rfl) ?_
    refine lv_aload_n hx hb dX1_keep_70 rfl (lv_at hl 0 rfl) ?_
    refine va_get (D := D) (ci := 1) (v := .ref (c 22)) (C := RX1) (T := TX1) (N := 15) hx hb hts hiX10 hown hK.1 hP 0 rfl rfl 8 (by decide) f6 (fun _ h9 => h9) rfl dX1_keep_71 ?_
    refine lv_iload_n hx hb dX1_keep_74 rfl (lv_at hl 2 rfl) ?_
    refine x_iald hx hb hK hP 8 0 rfl rfl (k := ce) (by omega) (by decide) dX1_keep_75 ?_
    refine lv_aload_n hx hb dX1_keep_76 rfl (lv_at hl 1 rfl) ?_
    refine rcVi (As := []) (rest := [.int (l8 ce), .int (nI ce), .ref (c 22)]) ⟨hx, hb, hml, hown, hts⟩ (k0_reachDown l0 D cA q0 q1 z lw hg O U mv M  ) (cwV 0 hts gX1_keep_X0_reachDown rfl rfl rfl (by decide +kernel) ⟨Nat.le_of_ble_eq_true rfl, Nat.le_of_ble_eq_true rfl⟩) (va_recv hK.1 hP (ci := 0) (q0 := 14) rfl rfl) (hP.sub [14, 15] rfl) hK1 rfl hl.1 rfl (Nat.le_of_ble_eq_true rfl) dX1_keep_77 ⟨Nat.zero_le _, Nat.zero_le _⟩ ?_
    refine va_mmin hx hb (hml.trans hl.1.symm) hown f7 f8 f4 f9 (Nat.le_of_ble_eq_true rfl) (Nat.le_of_ble_eq_true rfl) (Nat.zero_le _) (Nat.zero_le _) dX1_keep_80 ?_
    refine x_tp (y := mnI (l8 ce) (cI (¬ U ∧ ¬ O) (mnI (lw - 7) 4) lw)) rfl ?_
    refine x_iast hx hb hK hP hD hS 8 0 rfl rfl (k := ce) (by omega) (by decide) dX1_keep_83 (fun H locs hP hD hS => ?_)
    have hP : va_P D vwCl (lyW c cA cC sl l1 l2 l3 (cRow l4 M (nI mv) z) (cRow l5 M (nI z) z) C (upd l7 ce (mxI (l7 ce) (cI (U ∧ ¬ O) (mxI (hg + 7) 4) hg))) (upd l8 ce (mnI (l8 ce) (cI (¬ U ∧ ¬ O) (mnI (lw - 7) 4) lw))) l9 l10 l11 l12 ++ kW q0 q1 cA z lw hg O U mv M) H := hP
    have hD : va_D (va_A (lyW c cA cC sl l1 l2 l3 l4 l5 C l7 l8 l9 l10 l11 l12 ++ kW q0 q1 cA z lw hg O U mv M) sz) (lyW c cA cC sl l1 l2 l3 (cRow l4 M (nI mv) z) (cRow l5 M (nI z) z) C (upd l7 ce (mxI (l7 ce) (cI (U ∧ ¬ O) (mxI (hg + 7) 4) hg))) (upd l8 ce (mnI (l8 ce) (cI (¬ U ∧ ¬ O) (mnI (lw - 7) 4) lw))) l9 l10 l11 l12 ++ kW q0 q1 cA z lw hg O U mv M) := hD
    refine lv_aload_n hx hb dX1_keep_84 rfl (lv_at hl 0 rfl) ?_
    refine va_get (D := D) (ci := 1) (v := .ref (c 26)) (C := RX1) (T := TX1) (N := 15) hx hb hts hiX10 hown hK.1 hP 0 rfl rfl 12 (by decide) f10 (fun _ h9 => h9) rfl dX1_keep_85 ?_
    refine lv_iload_n hx hb dX1_keep_88 rfl (lv_at hl 2 rfl) ?_
    refine lv_aload_n hx hb dX1_keep_89 rfl (lv_at hl 0 rfl) ?_
    refine va_get (D := D) (ci := 1) (v := .ref (c 26)) (C := RX1) (T := TX1) (N := 15) hx hb hts hiX10 hown hK.1 hP 0 rfl rfl 12 (by decide) f10 (fun _ h9 => h9) rfl dX1_keep_90 ?_
    refine lv_iload_n hx hb dX1_keep_93 rfl (lv_at hl 2 rfl) ?_
    refine x_iald hx hb hK hP 12 0 rfl rfl (k := ce) (by omega) (by decide) dX1_keep_94 ?_
    refine lv_aload_n hx hb dX1_keep_95 rfl (lv_at hl 1 rfl) ?_
    refine va_get (D := D) (ci := 0) (v := .int (nI mv)) (C := RX0) (T := TX0) (N := 7) hx hb hts hiX00 hown hK.1 hP 14 rfl rfl 6 (by decide) f11 (fun _ h9 => h9) rfl dX1_keep_96 ?_
    refine va_mmax hx hb (hml.trans hl.1.symm) hown f2 f3 f4 f5 (Nat.le_of_ble_eq_true rfl) (Nat.le_of_ble_eq_true rfl) (Nat.zero_le _) (Nat.zero_le _) dX1_keep_99 ?_
    refine x_tp (y := mxI (l12 ce) (nI mv)) rfl ?_
    refine x_iast hx hb hK hP hD hS 12 0 rfl rfl (k := ce) (by omega) (by decide) dX1_keep_102 (fun H locs hP hD hS => ?_)
    have hP : va_P D vwCl (lyW c cA cC sl l1 l2 l3 (cRow l4 M (nI mv) z) (cRow l5 M (nI z) z) C (upd l7 ce (mxI (l7 ce) (cI (U ∧ ¬ O) (mxI (hg + 7) 4) hg))) (upd l8 ce (mnI (l8 ce) (cI (¬ U ∧ ¬ O) (mnI (lw - 7) 4) lw))) l9 l10 l11 (upd l12 ce (mxI (l12 ce) (nI mv))) ++ kW q0 q1 cA z lw hg O U mv M) H := hP
    have hD : va_D (va_A (lyW c cA cC sl l1 l2 l3 l4 l5 C l7 l8 l9 l10 l11 l12 ++ kW q0 q1 cA z lw hg O U mv M) sz) (lyW c cA cC sl l1 l2 l3 (cRow l4 M (nI mv) z) (cRow l5 M (nI z) z) C (upd l7 ce (mxI (l7 ce) (cI (U ∧ ¬ O) (mxI (hg + 7) 4) hg))) (upd l8 ce (mnI (l8 ce) (cI (¬ U ∧ ¬ O) (mnI (lw - 7) 4) lw))) l9 l10 l11 (upd l12 ce (mxI (l12 ce) (nI mv))) ++ kW q0 q1 cA z lw hg O U mv M) := hD
    exact w_vret () hx hb hr hlk hP hD hS (trivial) dX1_keep_103
  · have hMi := hM i c_7
    refine lv_aload_n hx hb dX1_keep_10 rfl (lv_at hl 0 rfl) ?_
    refine va_get (D := D) (ci := 1) (v := .ref (c 18)) (C := RX1) (T := TX1) (N := 15) hx hb hts hiX10 hown hK.1 hP 0 rfl rfl 4 (by decide) f12 (fun _ h9 => h9) rfl dX1_keep_11 ?_
    refine lv_aload_n hx hb dX1_keep_14 rfl (lv_at hl 1 rfl) ?_
    refine va_get (D := D) (ci := 0) (v := .ref q1) (C := RX0) (T := TX0) (N := 7) hx hb hts hiX00 hown hK.1 hP 14 rfl rfl 0 (by decide) f13 (fun _ h9 => h9) rfl dX1_keep_15 ?_
    refine lv_iload_n hx hb dX1_keep_18 rfl (lv_at hl 3 rfl) ?_
    refine x_iald hx hb hK hP 15 0 rfl rfl (k := i) (by omega) (by decide) dX1_keep_19 ?_
    refine lv_aload_n hx hb dX1_keep_20 rfl (lv_at hl 1 rfl) ?_
    refine va_get (D := D) (ci := 0) (v := .int (nI mv)) (C := RX0) (T := TX0) (N := 7) hx hb hts hiX00 hown hK.1 hP 14 rfl rfl 6 (by decide) f11 (fun _ h9 => h9) rfl dX1_keep_21 ?_
    refine x_iast hx hb hK hP hD hS 4 0 rfl rfl (k := (M i)) (by omega) (by decide) dX1_keep_24 (fun H locs hP hD hS => ?_)
    have hP : va_P D vwCl (lyW c cA cC sl l1 l2 l3 (upd (cRow l4 M (nI mv) i) (M i) (nI mv)) (cRow l5 M (nI z) i) C l7 l8 l9 l10 l11 l12 ++ kW q0 q1 cA z lw hg O U mv M) H := hP
    have hD : va_D (va_A (lyW c cA cC sl l1 l2 l3 l4 l5 C l7 l8 l9 l10 l11 l12 ++ kW q0 q1 cA z lw hg O U mv M) sz) (lyW c cA cC sl l1 l2 l3 (upd (cRow l4 M (nI mv) i) (M i) (nI mv)) (cRow l5 M (nI z) i) C l7 l8 l9 l10 l11 l12 ++ kW q0 q1 cA z lw hg O U mv M) := hD
    refine lv_aload_n hx hb dX1_keep_25 rfl (lv_at hl 0 rfl) ?_
    refine va_get (D := D) (ci := 1) (v := .ref (c 19)) (C := RX1) (T := TX1) (N := 15) hx hb hts hiX10 hown hK.1 hP 0 rfl rfl 5 (by decide) f14 (fun _ h9 => h9) rfl dX1_keep_26 ?_
    refine lv_aload_n hx hb dX1_keep_29 rfl (lv_at hl 1 rfl) ?_
    refine va_get (D := D) (ci := 0) (v := .ref q1) (C := RX0) (T := TX0) (N := 7) hx hb hts hiX00 hown hK.1 hP 14 rfl rfl 0 (by decide) f13 (fun _ h9 => h9) rfl dX1_keep_30 ?_
    refine lv_iload_n hx hb dX1_keep_33 rfl (lv_at hl 3 rfl) ?_
    refine x_iald hx hb hK hP 15 0 rfl rfl (k := i) (by omega) (by decide) dX1_keep_34 ?_
    refine lv_aload_n hx hb dX1_keep_35 rfl (lv_at hl 1 rfl) ?_
    refine va_get (D := D) (ci := 0) (v := .int (nI z)) (C := RX0) (T := TX0) (N := 7) hx hb hts hiX00 hown hK.1 hP 14 rfl rfl 1 (by decide) f0 (fun _ h9 => h9) rfl dX1_keep_36 ?_
    refine x_iast hx hb hK hP hD hS 5 0 rfl rfl (k := (M i)) (by omega) (by decide) dX1_keep_39 (fun H locs hP hD hS => ?_)
    have hP : va_P D vwCl (lyW c cA cC sl l1 l2 l3 (upd (cRow l4 M (nI mv) i) (M i) (nI mv)) (upd (cRow l5 M (nI z) i) (M i) (nI z)) C l7 l8 l9 l10 l11 l12 ++ kW q0 q1 cA z lw hg O U mv M) H := hP
    have hD : va_D (va_A (lyW c cA cC sl l1 l2 l3 l4 l5 C l7 l8 l9 l10 l11 l12 ++ kW q0 q1 cA z lw hg O U mv M) sz) (lyW c cA cC sl l1 l2 l3 (upd (cRow l4 M (nI mv) i) (M i) (nI mv)) (upd (cRow l5 M (nI z) i) (M i) (nI z)) C l7 l8 l9 l10 l11 l12 ++ kW q0 q1 cA z lw hg O U mv M) := hD
    have hP : va_P D vwCl (lyW c cA cC sl l1 l2 l3 (cRow l4 M (nI mv) (i + 1)) (cRow l5 M (nI z) (i + 1)) C l7 l8 l9 l10 l11 l12 ++ kW q0 q1 cA z lw hg O U mv M) H := hP
    have hD : va_D (va_A (lyW c cA cC sl l1 l2 l3 l4 l5 C l7 l8 l9 l10 l11 l12 ++ kW q0 q1 cA z lw hg O U mv M) sz) (lyW c cA cC sl l1 l2 l3 (cRow l4 M (nI mv) (i + 1)) (cRow l5 M (nI z) (i + 1)) C l7 l8 l9 l10 l11 l12 ++ kW q0 q1 cA z lw hg O U mv M) := hD
    refine lv_iinc (v := nI (i + 1)) (lv' := [(3, .int (nI (i + 1))), (0, .ref (c 14)), (1, .ref q0), (2, .int (nI ce))]) hx hb dX1_keep_40 hl (k := 3) rfl (x_inc i) (by decide) rfl (fun ls hl => ?_)
    refine lv_goto (tgt := 2) hx hb dX1_keep_43 (by decide) ?_
    exact ihi (by omega) () _ _ _ trivial (lv_sub hl [1, 2, 3, 0] rfl) hP hD hS

set_option maxHeartbeats 4000000 in
set_option maxRecDepth 100000 in
theorem k1_turnStems (l0 : Launch) (D : va_G) (c : Nat → Nat) (cA cC : ClassId) (sl : Prop) (l1 l2 l3 l4 l5 : Nat → Int32) (C : Nat → Nat) (l7 l8 l9 l10 l11 l12 : Nat → Int32) (z : Nat → Nat) (lw hg : Nat → Int32) (O U : Nat → Prop) (mv : Nat → Nat) (M : Nat → Nat → Nat) (ce sz : Nat) (hce : ce < 400) (h10 : l10 ce = nI (cCnt z 0)) (hz : ∀ v, z v ≤ 60) (hM : ∀ v i, i < z v → M v i < 60) : Met l0 yX1_turnStems wsX1_turnStems ({ frames := 1, cells := 0, slots := 0, locals := 20 }) (wPc D (lyW c cA cC sl l1 l2 l3 l4 l5 C l7 l8 l9 l10 l11 l12 ++ kW (c 28) (c 31) cA (z 0) (lw 0) (hg 0) (O 0) (U 0) (mv 0) (M 0) ++ kW (c 29) (c 32) cA (z 1) (lw 1) (hg 1) (O 1) (U 1) (mv 1) (M 1) ++ kW (c 30) (c 33) cA (z 2) (lw 2) (hg 2) (O 2) (U 2) (mv 2) (M 2)) [(cA, .int), (cC, .object "StaffHeads$Chord")] sz [.ref (c 14), .int (nI ce)]) (va_Qv (fun _ : Unit => True) (wB D (lyW c cA cC sl l1 l2 l3 l4 l5 C l7 l8 l9 l10 l11 l12 ++ kW (c 28) (c 31) cA (z 0) (lw 0) (hg 0) (O 0) (U 0) (mv 0) (M 0) ++ kW (c 29) (c 32) cA (z 1) (lw 1) (hg 1) (O 1) (U 1) (mv 1) (M 1) ++ kW (c 30) (c 33) cA (z 2) (lw 2) (hg 2) (O 2) (U 2) (mv 2) (M 2)) sz (fun _ => lyW c cA cC sl l1 (cStm (cStm (cStm l2 (M 0) (cUp z lw hg U 0) (z 0)) (M 1) (cUp z lw hg U 1) (z 1)) (M 2) (cUp z lw hg U 2) (z 2)) l3 l4 l5 C l7 l8 l9 (upd l10 ce (nI (cCnt z 3))) l11 l12 ++ kW (c 28) (c 31) cA (z 0) (lw 0) (hg 0) (O 0) (cUp z lw hg U 0) (mv 0) (M 0) ++ kW (c 29) (c 32) cA (z 1) (lw 1) (hg 1) (O 1) (cUp z lw hg U 1) (mv 1) (M 1) ++ kW (c 30) (c 33) cA (z 2) (lw 2) (hg 2) (O 2) (cUp z lw hg U 2) (mv 2) (M 2))) (va_A (lyW c cA cC sl l1 l2 l3 l4 l5 C l7 l8 l9 l10 l11 l12 ++ kW (c 28) (c 31) cA (z 0) (lw 0) (hg 0) (O 0) (U 0) (mv 0) (M 0) ++ kW (c 29) (c 32) cA (z 1) (lw 1) (hg 1) (O 1) (U 1) (mv 1) (M 1) ++ kW (c 30) (c 33) cA (z 2) (lw 2) (hg 2) (O 2) (U 2) (mv 2) (M 2)) sz)) 0 0 (va_A (lyW c cA cC sl l1 l2 l3 l4 l5 C l7 l8 l9 l10 l11 l12 ++ kW (c 28) (c 31) cA (z 0) (lw 0) (hg 0) (O 0) (U 0) (mv 0) (M 0) ++ kW (c 29) (c 32) cA (z 1) (lw 1) (hg 1) (O 1) (U 1) (mv 1) (M 1) ++ kW (c 30) (c 33) cA (z 2) (lw 2) (hg 2) (O 2) (U 2) (mv 2) (M 2)) sz) := by
  refine w_head (C := RX1) (cc := cX1_turnStems) (maxL := 6) (ret := none) [(0, .ref (c 14)), (1, .int (nI ce))] (by decide) rfl rfl (Nat.le_of_ble_eq_true rfl) rfl ?_
  intro p e s mi below meth cd hx hb hr hlk hml hown hin hts hP hD hS hA hK ls hl
  have hiX00 : ∀ w ∈ wsX00, w ∈ wsX1_turnStems := fun w h => List.mem_cons_of_mem _ (List.mem_append_right _ h)
  have hiX10 : ∀ w ∈ wsX10, w ∈ wsX1_turnStems := fun w h => List.mem_cons_of_mem _ (List.mem_append_left _ (List.mem_append_right _ h))
  have f0 := hts (.fieldLink RX1 43 "StaffHeads$Layout" "chordCount" "[I") (List.mem_of_getElem? (i := 1) rfl)
  have f1 := hts (.fieldLink RX1 55 "StaffHeads$Layout" "chords" "[LStaffHeads$Chord;") (List.mem_of_getElem? (i := 2) rfl)
  have f2 := hts (.fieldLink RX1 123 "StaffHeads$Chord" "size" "I") (List.mem_of_getElem? (i := 3) rfl)
  have f3 := hts (.fieldLink RX1 19 "StaffHeads$Layout" "stem" "[I") (List.mem_of_getElem? (i := 5) rfl)
  have f4 := hts (.fieldLink RX1 162 "StaffHeads$Chord" "heads" "[I") (List.mem_of_getElem? (i := 6) rfl)
  have f5 := hts (.fieldLink RX1 159 "StaffHeads$Chord" "up" "Z") (List.mem_of_getElem? (i := 4) rfl)
  have hK1 : kK D [(cA, .int)] s := ⟨hK.1.sub [0] rfl, hK.2⟩
  refine lv_iconst (v := 0) hx hb dX1_turnStems_0 (by decide) ?_
  refine x_tp (y := nI 0) nI_0.symm ?_
  refine lv_istore_n (lv' := [(2, .int (nI 0)), (0, .ref (c 14)), (1, .int (nI ce))]) hx hb dX1_turnStems_1 rfl hl (by decide) rfl (fun ls hl => ?_)
  refine lv_iload_n hx hb dX1_turnStems_2 rfl (lv_at hl 0 rfl) ?_
  refine lv_iconst (v := 3) hx hb dX1_turnStems_3 (by decide) ?_
  refine x_tp (y := nI 3) (show (3 : Int32) = nI 3 from rfl) ?_
  refine x_nge (tgt := 39) hx hb dX1_turnStems_4 (by decide) (by omega) (by omega) (fun c_4 => ?_) (fun c_4 => ?_)
  · exact absurd c_4 (by decide)
  · refine lv_aload_n hx hb dX1_turnStems_7 rfl (lv_at hl 1 rfl) ?_
    refine va_get (D := D) (ci := 1) (v := .ref (c 24)) (C := RX1) (T := TX1) (N := 15) hx hb hts hiX10 hown hK.1 hP 0 rfl rfl 10 (by decide) f0 (fun _ h9 => h9) rfl dX1_turnStems_8 ?_
    refine lv_iload_n hx hb dX1_turnStems_11 rfl (lv_at hl 2 rfl) ?_
    refine lv_dup2_11 hx hb dX1_turnStems_12 rfl rfl ?_
    refine x_iald hx hb hK hP 10 0 rfl rfl (k := ce) (by omega) (by decide) dX1_turnStems_13 ?_
    refine x_tp (y := nI (cCnt z 0)) h10 ?_
    refine lv_aload_n hx hb dX1_turnStems_14 rfl (lv_at hl 1 rfl) ?_
    refine x_join 6 [(2, .int (nI 0)), (0, .ref (c 14)), (1, .int (nI ce))] 32 [.int (nI (cCnt z 1)), .int (nI ce), .ref (c 24)] ?_ (fun j_32 => ?_)
    · intro ls hl
      refine x_iast hx hb hK hP hD hS 10 0 rfl rfl (k := ce) (by omega) (by decide) dX1_turnStems_32 (fun H locs hP hD hS => ?_)
      have hP : va_P D vwCl (lyW c cA cC sl l1 l2 l3 l4 l5 C l7 l8 l9 (upd l10 ce (nI (cCnt z 1))) l11 l12 ++ kW (c 28) (c 31) cA (z 0) (lw 0) (hg 0) (O 0) (U 0) (mv 0) (M 0) ++ kW (c 29) (c 32) cA (z 1) (lw 1) (hg 1) (O 1) (U 1) (mv 1) (M 1) ++ kW (c 30) (c 33) cA (z 2) (lw 2) (hg 2) (O 2) (U 2) (mv 2) (M 2)) H := hP
      have hD : va_D (va_A (lyW c cA cC sl l1 l2 l3 l4 l5 C l7 l8 l9 l10 l11 l12 ++ kW (c 28) (c 31) cA (z 0) (lw 0) (hg 0) (O 0) (U 0) (mv 0) (M 0) ++ kW (c 29) (c 32) cA (z 1) (lw 1) (hg 1) (O 1) (U 1) (mv 1) (M 1) ++ kW (c 30) (c 33) cA (z 2) (lw 2) (hg 2) (O 2) (U 2) (mv 2) (M 2)) sz) (lyW c cA cC sl l1 l2 l3 l4 l5 C l7 l8 l9 (upd l10 ce (nI (cCnt z 1))) l11 l12 ++ kW (c 28) (c 31) cA (z 0) (lw 0) (hg 0) (O 0) (U 0) (mv 0) (M 0) ++ kW (c 29) (c 32) cA (z 1) (lw 1) (hg 1) (O 1) (U 1) (mv 1) (M 1) ++ kW (c 30) (c 33) cA (z 2) (lw 2) (hg 2) (O 2) (U 2) (mv 2) (M 2)) := hD
      have hP : va_P D vwCl (lyW c cA cC sl l1 l2 l3 l4 l5 C l7 l8 l9 (upd l10 ce (nI (cCnt z 1))) l11 l12 ++ kW (c 28) (c 31) cA (z 0) (lw 0) (hg 0) (O 0) (U 0) (mv 0) (M 0) ++ kW (c 29) (c 32) cA (z 1) (lw 1) (hg 1) (O 1) (U 1) (mv 1) (M 1) ++ kW (c 30) (c 33) cA (z 2) (lw 2) (hg 2) (O 2) (U 2) (mv 2) (M 2)) H := hP
      have hD : va_D (va_A (lyW c cA cC sl l1 l2 l3 l4 l5 C l7 l8 l9 l10 l11 l12 ++ kW (c 28) (c 31) cA (z 0) (lw 0) (hg 0) (O 0) (U 0) (mv 0) (M 0) ++ kW (c 29) (c 32) cA (z 1) (lw 1) (hg 1) (O 1) (U 1) (mv 1) (M 1) ++ kW (c 30) (c 33) cA (z 2) (lw 2) (hg 2) (O 2) (U 2) (mv 2) (M 2)) sz) (lyW c cA cC sl l1 l2 l3 l4 l5 C l7 l8 l9 (upd l10 ce (nI (cCnt z 1))) l11 l12 ++ kW (c 28) (c 31) cA (z 0) (lw 0) (hg 0) (O 0) (U 0) (mv 0) (M 0) ++ kW (c 29) (c 32) cA (z 1) (lw 1) (hg 1) (O 1) (U 1) (mv 1) (M 1) ++ kW (c 30) (c 33) cA (z 2) (lw 2) (hg 2) (O 2) (U 2) (mv 2) (M 2)) := hD
      refine lv_iinc (v := nI 1) (lv' := [(2, .int (nI 1)), (0, .ref (c 14)), (1, .int (nI ce))]) hx hb dX1_turnStems_33 hl (k := 0) rfl (x_inc 0) (by decide) rfl (fun ls hl => ?_)
      refine lv_goto (tgt := 2) hx hb dX1_turnStems_36 (by decide) ?_
      refine lv_iload_n hx hb dX1_turnStems_2 rfl (lv_at hl 0 rfl) ?_
      refine lv_iconst (v := 3) hx hb dX1_turnStems_3 (by decide) ?_
      refine x_tp (y := nI 3) (show (3 : Int32) = nI 3 from rfl) ?_
      refine x_nge (tgt := 39) hx hb dX1_turnStems_4 (by decide) (by omega) (by omega) (fun c_4 => ?_) (fun c_4 => ?_)
      · exact absurd c_4 (by decide)
      · refine lv_aload_n hx hb dX1_turnStems_7 rfl (lv_at hl 1 rfl) ?_
        refine va_get (D := D) (ci := 1) (v := .ref (c 24)) (C := RX1) (T := TX1) (N := 15) hx hb hts hiX10 hown hK.1 hP 0 rfl rfl 10 (by decide) f0 (fun _ h9 => h9) rfl dX1_turnStems_8 ?_
        refine lv_iload_n hx hb dX1_turnStems_11 rfl (lv_at hl 2 rfl) ?_
        refine lv_dup2_11 hx hb dX1_turnStems_12 rfl rfl ?_
        refine x_iald hx hb hK hP 10 0 rfl rfl (k := ce) (by omega) (by decide) dX1_turnStems_13 ?_
        refine x_tp (y := nI (cCnt z 1)) pk_us ?_
        refine lv_aload_n hx hb dX1_turnStems_14 rfl (lv_at hl 1 rfl) ?_
        refine x_join 6 [(2, .int (nI 1)), (0, .ref (c 14)), (1, .int (nI ce))] 32 [.int (nI (cCnt z 2)), .int (nI ce), .ref (c 24)] ?_ (fun j_32 => ?_)
        · intro ls hl
          refine x_iast hx hb hK hP hD hS 10 0 rfl rfl (k := ce) (by omega) (by decide) dX1_turnStems_32 (fun H locs hP hD hS => ?_)
          have hP : va_P D vwCl (lyW c cA cC sl l1 l2 l3 l4 l5 C l7 l8 l9 (upd (upd l10 ce (nI (cCnt z 1))) ce (nI (cCnt z 2))) l11 l12 ++ kW (c 28) (c 31) cA (z 0) (lw 0) (hg 0) (O 0) (U 0) (mv 0) (M 0) ++ kW (c 29) (c 32) cA (z 1) (lw 1) (hg 1) (O 1) (U 1) (mv 1) (M 1) ++ kW (c 30) (c 33) cA (z 2) (lw 2) (hg 2) (O 2) (U 2) (mv 2) (M 2)) H := hP
          have hD : va_D (va_A (lyW c cA cC sl l1 l2 l3 l4 l5 C l7 l8 l9 l10 l11 l12 ++ kW (c 28) (c 31) cA (z 0) (lw 0) (hg 0) (O 0) (U 0) (mv 0) (M 0) ++ kW (c 29) (c 32) cA (z 1) (lw 1) (hg 1) (O 1) (U 1) (mv 1) (M 1) ++ kW (c 30) (c 33) cA (z 2) (lw 2) (hg 2) (O 2) (U 2) (mv 2) (M 2)) sz) (lyW c cA cC sl l1 l2 l3 l4 l5 C l7 l8 l9 (upd (upd l10 ce (nI (cCnt z 1))) ce (nI (cCnt z 2))) l11 l12 ++ kW (c 28) (c 31) cA (z 0) (lw 0) (hg 0) (O 0) (U 0) (mv 0) (M 0) ++ kW (c 29) (c 32) cA (z 1) (lw 1) (hg 1) (O 1) (U 1) (mv 1) (M 1) ++ kW (c 30) (c 33) cA (z 2) (lw 2) (hg 2) (O 2) (U 2) (mv 2) (M 2)) := hD
          have hwe : lyW c cA cC sl l1 l2 l3 l4 l5 C l7 l8 l9 (upd (upd l10 ce (nI (cCnt z 1))) ce (nI (cCnt z 2))) l11 l12 ++ kW (c 28) (c 31) cA (z 0) (lw 0) (hg 0) (O 0) (U 0) (mv 0) (M 0) ++ kW (c 29) (c 32) cA (z 1) (lw 1) (hg 1) (O 1) (U 1) (mv 1) (M 1) ++ kW (c 30) (c 33) cA (z 2) (lw 2) (hg 2) (O 2) (U 2) (mv 2) (M 2) = lyW c cA cC sl l1 l2 l3 l4 l5 C l7 l8 l9 (upd l10 ce (nI (cCnt z 2))) l11 l12 ++ kW (c 28) (c 31) cA (z 0) (lw 0) (hg 0) (O 0) (U 0) (mv 0) (M 0) ++ kW (c 29) (c 32) cA (z 1) (lw 1) (hg 1) (O 1) (U 1) (mv 1) (M 1) ++ kW (c 30) (c 33) cA (z 2) (lw 2) (hg 2) (O 2) (U 2) (mv 2) (M 2) := (show _ = _ from by
            rw [show upd l10 ce (nI (cCnt z 2)) = upd (upd l10 ce (nI (cCnt z 1))) ce (nI (cCnt z 2)) from (upd_same _ _ _ _).symm])
          rw [hwe] at hP hD
          refine lv_iinc (v := nI 2) (lv' := [(2, .int (nI 2)), (0, .ref (c 14)), (1, .int (nI ce))]) hx hb dX1_turnStems_33 hl (k := 0) rfl (x_inc 1) (by decide) rfl (fun ls hl => ?_)
          refine lv_goto (tgt := 2) hx hb dX1_turnStems_36 (by decide) ?_
          refine lv_iload_n hx hb dX1_turnStems_2 rfl (lv_at hl 0 rfl) ?_
          refine lv_iconst (v := 3) hx hb dX1_turnStems_3 (by decide) ?_
          refine x_tp (y := nI 3) (show (3 : Int32) = nI 3 from rfl) ?_
          refine x_nge (tgt := 39) hx hb dX1_turnStems_4 (by decide) (by omega) (by omega) (fun c_4 => ?_) (fun c_4 => ?_)
          · exact absurd c_4 (by decide)
          · refine lv_aload_n hx hb dX1_turnStems_7 rfl (lv_at hl 1 rfl) ?_
            refine va_get (D := D) (ci := 1) (v := .ref (c 24)) (C := RX1) (T := TX1) (N := 15) hx hb hts hiX10 hown hK.1 hP 0 rfl rfl 10 (by decide) f0 (fun _ h9 => h9) rfl dX1_turnStems_8 ?_
            refine lv_iload_n hx hb dX1_turnStems_11 rfl (lv_at hl 2 rfl) ?_
            refine lv_dup2_11 hx hb dX1_turnStems_12 rfl rfl ?_
            refine x_iald hx hb hK hP 10 0 rfl rfl (k := ce) (by omega) (by decide) dX1_turnStems_13 ?_
            refine x_tp (y := nI (cCnt z 2)) pk_us ?_
            refine lv_aload_n hx hb dX1_turnStems_14 rfl (lv_at hl 1 rfl) ?_
            refine x_join 6 [(2, .int (nI 2)), (0, .ref (c 14)), (1, .int (nI ce))] 32 [.int (nI (cCnt z 3)), .int (nI ce), .ref (c 24)] ?_ (fun j_32 => ?_)
            · intro ls hl
              refine x_iast hx hb hK hP hD hS 10 0 rfl rfl (k := ce) (by omega) (by decide) dX1_turnStems_32 (fun H locs hP hD hS => ?_)
              have hP : va_P D vwCl (lyW c cA cC sl l1 l2 l3 l4 l5 C l7 l8 l9 (upd (upd l10 ce (nI (cCnt z 2))) ce (nI (cCnt z 3))) l11 l12 ++ kW (c 28) (c 31) cA (z 0) (lw 0) (hg 0) (O 0) (U 0) (mv 0) (M 0) ++ kW (c 29) (c 32) cA (z 1) (lw 1) (hg 1) (O 1) (U 1) (mv 1) (M 1) ++ kW (c 30) (c 33) cA (z 2) (lw 2) (hg 2) (O 2) (U 2) (mv 2) (M 2)) H := hP
              have hD : va_D (va_A (lyW c cA cC sl l1 l2 l3 l4 l5 C l7 l8 l9 l10 l11 l12 ++ kW (c 28) (c 31) cA (z 0) (lw 0) (hg 0) (O 0) (U 0) (mv 0) (M 0) ++ kW (c 29) (c 32) cA (z 1) (lw 1) (hg 1) (O 1) (U 1) (mv 1) (M 1) ++ kW (c 30) (c 33) cA (z 2) (lw 2) (hg 2) (O 2) (U 2) (mv 2) (M 2)) sz) (lyW c cA cC sl l1 l2 l3 l4 l5 C l7 l8 l9 (upd (upd l10 ce (nI (cCnt z 2))) ce (nI (cCnt z 3))) l11 l12 ++ kW (c 28) (c 31) cA (z 0) (lw 0) (hg 0) (O 0) (U 0) (mv 0) (M 0) ++ kW (c 29) (c 32) cA (z 1) (lw 1) (hg 1) (O 1) (U 1) (mv 1) (M 1) ++ kW (c 30) (c 33) cA (z 2) (lw 2) (hg 2) (O 2) (U 2) (mv 2) (M 2)) := hD
              have hwe : lyW c cA cC sl l1 l2 l3 l4 l5 C l7 l8 l9 (upd (upd l10 ce (nI (cCnt z 2))) ce (nI (cCnt z 3))) l11 l12 ++ kW (c 28) (c 31) cA (z 0) (lw 0) (hg 0) (O 0) (U 0) (mv 0) (M 0) ++ kW (c 29) (c 32) cA (z 1) (lw 1) (hg 1) (O 1) (U 1) (mv 1) (M 1) ++ kW (c 30) (c 33) cA (z 2) (lw 2) (hg 2) (O 2) (U 2) (mv 2) (M 2) = lyW c cA cC sl l1 l2 l3 l4 l5 C l7 l8 l9 (upd l10 ce (nI (cCnt z 3))) l11 l12 ++ kW (c 28) (c 31) cA (z 0) (lw 0) (hg 0) (O 0) (U 0) (mv 0) (M 0) ++ kW (c 29) (c 32) cA (z 1) (lw 1) (hg 1) (O 1) (U 1) (mv 1) (M 1) ++ kW (c 30) (c 33) cA (z 2) (lw 2) (hg 2) (O 2) (U 2) (mv 2) (M 2) := (show _ = _ from by
                rw [show upd l10 ce (nI (cCnt z 3)) = upd (upd l10 ce (nI (cCnt z 2))) ce (nI (cCnt z 3)) from (upd_same _ _ _ _).symm])
              rw [hwe] at hP hD
              refine lv_iinc (v := nI 3) (lv' := [(2, .int (nI 3)), (0, .ref (c 14)), (1, .int (nI ce))]) hx hb dX1_turnStems_33 hl (k := 0) rfl (x_inc 2) (by decide) rfl (fun ls hl => ?_)
              refine lv_goto (tgt := 2) hx hb dX1_turnStems_36 (by decide) ?_
              refine lv_iload_n hx hb dX1_turnStems_2 rfl (lv_at hl 0 rfl) ?_
              refine lv_iconst (v := 3) hx hb dX1_turnStems_3 (by decide) ?_
              refine x_tp (y := nI 3) (show (3 : Int32) = nI 3 from rfl) ?_
              refine x_nge (tgt := 39) hx hb dX1_turnStems_4 (by decide) (by omega) (by omega) (fun c_4 => ?_) (fun c_4 => ?_)
              · refine lv_iconst (v := 1) hx hb dX1_turnStems_39 (by decide) ?_
                refine x_tp (y := bv (cLes z 0)) (bv_t (fun w h => absurd h (Nat.not_lt_zero w))).symm ?_
                refine lv_istore_n (lv' := [(2, .int (bv (cLes z 0))), (0, .ref (c 14)), (1, .int (nI ce))]) hx hb dX1_turnStems_40 rfl hl (by decide) rfl (fun ls hl => ?_)
                refine lv_iconst (v := 0) hx hb dX1_turnStems_41 (by decide) ?_
                refine x_tp (y := nI 0) nI_0.symm ?_
                refine lv_istore_n (lv' := [(3, .int (nI 0)), (2, .int (bv (cLes z 0))), (0, .ref (c 14)), (1, .int (nI ce))]) hx hb dX1_turnStems_42 rfl hl (by decide) rfl (fun ls hl => ?_)
                refine lv_iload_n hx hb dX1_turnStems_43 rfl (lv_at hl 0 rfl) ?_
                refine lv_iconst (v := 3) hx hb dX1_turnStems_44 (by decide) ?_
                refine x_tp (y := nI 3) (show (3 : Int32) = nI 3 from rfl) ?_
                refine x_nge (tgt := 141) hx hb dX1_turnStems_45 (by decide) (by omega) (by omega) (fun c_45 => ?_) (fun c_45 => ?_)
                · exact absurd c_45 (by decide)
                · refine lv_aload_n hx hb dX1_turnStems_48 rfl (lv_at hl 2 rfl) ?_
                  refine va_get (D := D) (ci := 1) (v := .ref (c 27)) (C := RX1) (T := TX1) (N := 15) hx hb hts hiX10 hown hK.1 hP 0 rfl rfl 13 (by decide) f1 (fun _ h9 => h9) rfl dX1_turnStems_49 ?_
                  refine lv_iload_n hx hb dX1_turnStems_52 rfl (lv_at hl 0 rfl) ?_
                  refine x_aald hx hb hK hP 13 1 rfl rfl (k := 0) (by decide) (by decide) dX1_turnStems_53 ?_
                  refine x_tpr (y := c 28) rfl ?_
                  refine lv_astore (lv' := [(4, .ref (c 28)), (3, .int (nI 0)), (2, .int (bv (cLes z 0))), (0, .ref (c 14)), (1, .int (nI ce))]) hx hb dX1_turnStems_54 hl (by decide) rfl (fun ls hl => ?_)
                  refine x_joinW (D := D) (A := (va_A (lyW c cA cC sl l1 l2 l3 l4 l5 C l7 l8 l9 l10 l11 l12 ++ kW (c 28) (c 31) cA (z 0) (lw 0) (hg 0) (O 0) (U 0) (mv 0) (M 0) ++ kW (c 29) (c 32) cA (z 1) (lw 1) (hg 1) (O 1) (U 1) (mv 1) (M 1) ++ kW (c 30) (c 33) cA (z 2) (lw 2) (hg 2) (O 2) (U 2) (mv 2) (M 2)) sz)) (H0 := s.heap) 6 [(4, .ref (c 28)), (3, .int (nI 0)), (2, .int (bv (cLes z 1))), (0, .ref (c 14)), (1, .int (nI ce))] (lyW c cA cC sl l1 l2 l3 l4 l5 C l7 l8 l9 (upd l10 ce (nI (cCnt z 3))) l11 l12 ++ kW (c 28) (c 31) cA (z 0) (lw 0) (hg 0) (O 0) (cUp z lw hg U 0) (mv 0) (M 0) ++ kW (c 29) (c 32) cA (z 1) (lw 1) (hg 1) (O 1) (U 1) (mv 1) (M 1) ++ kW (c 30) (c 33) cA (z 2) (lw 2) (hg 2) (O 2) (U 2) (mv 2) (M 2)) 90 [] ?_ (fun j_90 => ?_)
                  · intro ls H locs hl hP hD hS
                    refine lv_iconst (v := 0) hx hb dX1_turnStems_90 (by decide) ?_
                    refine x_tp (y := nI 0) nI_0.symm ?_
                    refine lv_istore (lv' := [(5, .int (nI 0)), (4, .ref (c 28)), (3, .int (nI 0)), (2, .int (bv (cLes z 1))), (0, .ref (c 14)), (1, .int (nI ce))]) hx hb dX1_turnStems_91 hl (by decide) rfl (fun ls hl => ?_)
                    have hzv := hz 0
                    refine lpW (G := fun ls H locs => W p _ e _ s mi _ below meth cd H locs _ _ _ (F0 mi 93 ls [])) 6 (z 0) (fun i (_ : Unit) => [(0, .ref (c 14)), (1, .int (nI ce)), (2, .int (bv (cLes z 1))), (3, .int (nI 0)), (4, .ref (c 28)), (5, .int (nI i))]) (fun i (_ : Unit) => lyW c cA cC sl l1 (cStm l2 (M 0) (cUp z lw hg U 0) i) l3 l4 l5 C l7 l8 l9 (upd l10 ce (nI (cCnt z 3))) l11 l12 ++ kW (c 28) (c 31) cA (z 0) (lw 0) (hg 0) (O 0) (cUp z lw hg U 0) (mv 0) (M 0) ++ kW (c 29) (c 32) cA (z 1) (lw 1) (hg 1) (O 1) (U 1) (mv 1) (M 1) ++ kW (c 30) (c 33) cA (z 2) (lw 2) (hg 2) (O 2) (U 2) (mv 2) (M 2)) (fun _ _ => True) ?_ 0 () (Nat.zero_le _) trivial (lv_sub hl [4, 5, 3, 2, 1, 0] rfl) hP hD hS
                    clear hl hP hD hS
                    intro i gu hi hiI ls H locs hl hP hD hS ihi
                    refine lv_iload hx hb dX1_turnStems_93 (lv_at hl 5 rfl) ?_
                    refine lv_aload hx hb dX1_turnStems_95 (lv_at hl 4 rfl) ?_
                    refine va_get (D := D) (ci := 0) (v := .int (nI (z 0))) (C := RX0) (T := TX0) (N := 7) hx hb hts hiX00 hown hK.1 hP 14 rfl rfl 1 (by decide) f2 (fun _ h9 => h9) rfl dX1_turnStems_97 ?_
                    refine x_nge (tgt := 135) hx hb dX1_turnStems_100 (by decide) (by omega) (by omega) (fun c_100 => ?_) (fun c_100 => ?_)
                    · obtain rfl : z 0 = i := by omega
                      refine lv_iinc (v := nI 1) (lv' := [(3, .int (nI 1)), (0, .ref (c 14)), (1, .int (nI ce)), (2, .int (bv (cLes z 1))), (4, .ref (c 28)), (5, .int (nI (z 0)))]) hx hb dX1_turnStems_135 hl (k := 3) rfl (x_inc 0) (by decide) rfl (fun ls hl => ?_)
                      refine lv_goto (tgt := 43) hx hb dX1_turnStems_138 (by decide) ?_
                      refine lv_iload_n hx hb dX1_turnStems_43 rfl (lv_at hl 0 rfl) ?_
                      refine lv_iconst (v := 3) hx hb dX1_turnStems_44 (by decide) ?_
                      refine x_tp (y := nI 3) (show (3 : Int32) = nI 3 from rfl) ?_
                      refine x_nge (tgt := 141) hx hb dX1_turnStems_45 (by decide) (by omega) (by omega) (fun c_45 => ?_) (fun c_45 => ?_)
                      · exact absurd c_45 (by decide)
                      · refine lv_aload_n hx hb dX1_turnStems_48 rfl (lv_at hl 1 rfl) ?_
                        refine va_get (D := D) (ci := 1) (v := .ref (c 27)) (C := RX1) (T := TX1) (N := 15) hx hb hts hiX10 hown hK.1 hP 0 rfl rfl 13 (by decide) f1 (fun _ h9 => h9) rfl dX1_turnStems_49 ?_
                        refine lv_iload_n hx hb dX1_turnStems_52 rfl (lv_at hl 0 rfl) ?_
                        refine x_aald hx hb hK hP 13 1 rfl rfl (k := 1) (by decide) (by decide) dX1_turnStems_53 ?_
                        refine x_tpr (y := c 29) rfl ?_
                        refine lv_astore (lv' := [(4, .ref (c 29)), (3, .int (nI 1)), (0, .ref (c 14)), (1, .int (nI ce)), (2, .int (bv (cLes z 1))), (5, .int (nI (z 0)))]) hx hb dX1_turnStems_54 hl (by decide) rfl (fun ls hl => ?_)
                        refine x_joinW (D := D) (A := (va_A (lyW c cA cC sl l1 l2 l3 l4 l5 C l7 l8 l9 l10 l11 l12 ++ kW (c 28) (c 31) cA (z 0) (lw 0) (hg 0) (O 0) (U 0) (mv 0) (M 0) ++ kW (c 29) (c 32) cA (z 1) (lw 1) (hg 1) (O 1) (U 1) (mv 1) (M 1) ++ kW (c 30) (c 33) cA (z 2) (lw 2) (hg 2) (O 2) (U 2) (mv 2) (M 2)) sz)) (H0 := s.heap) 6 [(4, .ref (c 29)), (3, .int (nI 1)), (0, .ref (c 14)), (1, .int (nI ce)), (2, .int (bv (cLes z 2))), (5, .int (nI (z 0)))] (lyW c cA cC sl l1 (cStm l2 (M 0) (cUp z lw hg U 0) (z 0)) l3 l4 l5 C l7 l8 l9 (upd l10 ce (nI (cCnt z 3))) l11 l12 ++ kW (c 28) (c 31) cA (z 0) (lw 0) (hg 0) (O 0) (cUp z lw hg U 0) (mv 0) (M 0) ++ kW (c 29) (c 32) cA (z 1) (lw 1) (hg 1) (O 1) (cUp z lw hg U 1) (mv 1) (M 1) ++ kW (c 30) (c 33) cA (z 2) (lw 2) (hg 2) (O 2) (U 2) (mv 2) (M 2)) 90 [] ?_ (fun j_90 => ?_)
                        · intro ls H locs hl hP hD hS
                          refine lv_iconst (v := 0) hx hb dX1_turnStems_90 (by decide) ?_
                          refine x_tp (y := nI 0) nI_0.symm ?_
                          refine lv_istore (lv' := [(5, .int (nI 0)), (4, .ref (c 29)), (3, .int (nI 1)), (0, .ref (c 14)), (1, .int (nI ce)), (2, .int (bv (cLes z 2)))]) hx hb dX1_turnStems_91 hl (by decide) rfl (fun ls hl => ?_)
                          have hzv := hz 1
                          refine lpW (G := fun ls H locs => W p _ e _ s mi _ below meth cd H locs _ _ _ (F0 mi 93 ls [])) 6 (z 1) (fun i (_ : Unit) => [(0, .ref (c 14)), (1, .int (nI ce)), (2, .int (bv (cLes z 2))), (3, .int (nI 1)), (4, .ref (c 29)), (5, .int (nI i))]) (fun i (_ : Unit) => lyW c cA cC sl l1 (cStm (cStm l2 (M 0) (cUp z lw hg U 0) (z 0)) (M 1) (cUp z lw hg U 1) i) l3 l4 l5 C l7 l8 l9 (upd l10 ce (nI (cCnt z 3))) l11 l12 ++ kW (c 28) (c 31) cA (z 0) (lw 0) (hg 0) (O 0) (cUp z lw hg U 0) (mv 0) (M 0) ++ kW (c 29) (c 32) cA (z 1) (lw 1) (hg 1) (O 1) (cUp z lw hg U 1) (mv 1) (M 1) ++ kW (c 30) (c 33) cA (z 2) (lw 2) (hg 2) (O 2) (U 2) (mv 2) (M 2)) (fun _ _ => True) ?_ 0 () (Nat.zero_le _) trivial (lv_sub hl [3, 4, 5, 2, 1, 0] rfl) hP hD hS
                          clear hl hP hD hS
                          intro i gu hi hiI ls H locs hl hP hD hS ihi
                          refine lv_iload hx hb dX1_turnStems_93 (lv_at hl 5 rfl) ?_
                          refine lv_aload hx hb dX1_turnStems_95 (lv_at hl 4 rfl) ?_
                          refine va_get (D := D) (ci := 0) (v := .int (nI (z 1))) (C := RX0) (T := TX0) (N := 7) hx hb hts hiX00 hown hK.1 hP 16 rfl rfl 1 (by decide) f2 (fun _ h9 => h9) rfl dX1_turnStems_97 ?_
                          refine x_nge (tgt := 135) hx hb dX1_turnStems_100 (by decide) (by omega) (by omega) (fun c_100 => ?_) (fun c_100 => ?_)
                          · obtain rfl : z 1 = i := by omega
                            refine lv_iinc (v := nI 2) (lv' := [(3, .int (nI 2)), (0, .ref (c 14)), (1, .int (nI ce)), (2, .int (bv (cLes z 2))), (4, .ref (c 29)), (5, .int (nI (z 1)))]) hx hb dX1_turnStems_135 hl (k := 3) rfl (x_inc 1) (by decide) rfl (fun ls hl => ?_)
                            refine lv_goto (tgt := 43) hx hb dX1_turnStems_138 (by decide) ?_
                            refine lv_iload_n hx hb dX1_turnStems_43 rfl (lv_at hl 0 rfl) ?_
                            refine lv_iconst (v := 3) hx hb dX1_turnStems_44 (by decide) ?_
                            refine x_tp (y := nI 3) (show (3 : Int32) = nI 3 from rfl) ?_
                            refine x_nge (tgt := 141) hx hb dX1_turnStems_45 (by decide) (by omega) (by omega) (fun c_45 => ?_) (fun c_45 => ?_)
                            · exact absurd c_45 (by decide)
                            · refine lv_aload_n hx hb dX1_turnStems_48 rfl (lv_at hl 1 rfl) ?_
                              refine va_get (D := D) (ci := 1) (v := .ref (c 27)) (C := RX1) (T := TX1) (N := 15) hx hb hts hiX10 hown hK.1 hP 0 rfl rfl 13 (by decide) f1 (fun _ h9 => h9) rfl dX1_turnStems_49 ?_
                              refine lv_iload_n hx hb dX1_turnStems_52 rfl (lv_at hl 0 rfl) ?_
                              refine x_aald hx hb hK hP 13 1 rfl rfl (k := 2) (by decide) (by decide) dX1_turnStems_53 ?_
                              refine x_tpr (y := c 30) rfl ?_
                              refine lv_astore (lv' := [(4, .ref (c 30)), (3, .int (nI 2)), (0, .ref (c 14)), (1, .int (nI ce)), (2, .int (bv (cLes z 2))), (5, .int (nI (z 1)))]) hx hb dX1_turnStems_54 hl (by decide) rfl (fun ls hl => ?_)
                              refine x_joinW (D := D) (A := (va_A (lyW c cA cC sl l1 l2 l3 l4 l5 C l7 l8 l9 l10 l11 l12 ++ kW (c 28) (c 31) cA (z 0) (lw 0) (hg 0) (O 0) (U 0) (mv 0) (M 0) ++ kW (c 29) (c 32) cA (z 1) (lw 1) (hg 1) (O 1) (U 1) (mv 1) (M 1) ++ kW (c 30) (c 33) cA (z 2) (lw 2) (hg 2) (O 2) (U 2) (mv 2) (M 2)) sz)) (H0 := s.heap) 6 [(4, .ref (c 30)), (3, .int (nI 2)), (0, .ref (c 14)), (1, .int (nI ce)), (2, .int (bv (cLes z 3))), (5, .int (nI (z 1)))] (lyW c cA cC sl l1 (cStm (cStm l2 (M 0) (cUp z lw hg U 0) (z 0)) (M 1) (cUp z lw hg U 1) (z 1)) l3 l4 l5 C l7 l8 l9 (upd l10 ce (nI (cCnt z 3))) l11 l12 ++ kW (c 28) (c 31) cA (z 0) (lw 0) (hg 0) (O 0) (cUp z lw hg U 0) (mv 0) (M 0) ++ kW (c 29) (c 32) cA (z 1) (lw 1) (hg 1) (O 1) (cUp z lw hg U 1) (mv 1) (M 1) ++ kW (c 30) (c 33) cA (z 2) (lw 2) (hg 2) (O 2) (cUp z lw hg U 2) (mv 2) (M 2)) 90 [] ?_ (fun j_90 => ?_)
                              · intro ls H locs hl hP hD hS
                                refine lv_iconst (v := 0) hx hb dX1_turnStems_90 (by decide) ?_
                                refine x_tp (y := nI 0) nI_0.symm ?_
                                refine lv_istore (lv' := [(5, .int (nI 0)), (4, .ref (c 30)), (3, .int (nI 2)), (0, .ref (c 14)), (1, .int (nI ce)), (2, .int (bv (cLes z 3)))]) hx hb dX1_turnStems_91 hl (by decide) rfl (fun ls hl => ?_)
                                have hzv := hz 2
                                refine lpW (G := fun ls H locs => W p _ e _ s mi _ below meth cd H locs _ _ _ (F0 mi 93 ls [])) 6 (z 2) (fun i (_ : Unit) => [(0, .ref (c 14)), (1, .int (nI ce)), (2, .int (bv (cLes z 3))), (3, .int (nI 2)), (4, .ref (c 30)), (5, .int (nI i))]) (fun i (_ : Unit) => lyW c cA cC sl l1 (cStm (cStm (cStm l2 (M 0) (cUp z lw hg U 0) (z 0)) (M 1) (cUp z lw hg U 1) (z 1)) (M 2) (cUp z lw hg U 2) i) l3 l4 l5 C l7 l8 l9 (upd l10 ce (nI (cCnt z 3))) l11 l12 ++ kW (c 28) (c 31) cA (z 0) (lw 0) (hg 0) (O 0) (cUp z lw hg U 0) (mv 0) (M 0) ++ kW (c 29) (c 32) cA (z 1) (lw 1) (hg 1) (O 1) (cUp z lw hg U 1) (mv 1) (M 1) ++ kW (c 30) (c 33) cA (z 2) (lw 2) (hg 2) (O 2) (cUp z lw hg U 2) (mv 2) (M 2)) (fun _ _ => True) ?_ 0 () (Nat.zero_le _) trivial (lv_sub hl [3, 4, 5, 2, 1, 0] rfl) hP hD hS
                                clear hl hP hD hS
                                intro i gu hi hiI ls H locs hl hP hD hS ihi
                                refine lv_iload hx hb dX1_turnStems_93 (lv_at hl 5 rfl) ?_
                                refine lv_aload hx hb dX1_turnStems_95 (lv_at hl 4 rfl) ?_
                                refine va_get (D := D) (ci := 0) (v := .int (nI (z 2))) (C := RX0) (T := TX0) (N := 7) hx hb hts hiX00 hown hK.1 hP 18 rfl rfl 1 (by decide) f2 (fun _ h9 => h9) rfl dX1_turnStems_97 ?_
                                refine x_nge (tgt := 135) hx hb dX1_turnStems_100 (by decide) (by omega) (by omega) (fun c_100 => ?_) (fun c_100 => ?_)
                                · obtain rfl : z 2 = i := by omega
                                  refine lv_iinc (v := nI 3) (lv' := [(3, .int (nI 3)), (0, .ref (c 14)), (1, .int (nI ce)), (2, .int (bv (cLes z 3))), (4, .ref (c 30)), (5, .int (nI (z 2)))]) hx hb dX1_turnStems_135 hl (k := 3) rfl (x_inc 2) (by decide) rfl (fun ls hl => ?_)
                                  refine lv_goto (tgt := 43) hx hb dX1_turnStems_138 (by decide) ?_
                                  refine lv_iload_n hx hb dX1_turnStems_43 rfl (lv_at hl 0 rfl) ?_
                                  refine lv_iconst (v := 3) hx hb dX1_turnStems_44 (by decide) ?_
                                  refine x_tp (y := nI 3) (show (3 : Int32) = nI 3 from rfl) ?_
                                  refine x_nge (tgt := 141) hx hb dX1_turnStems_45 (by decide) (by omega) (by omega) (fun c_45 => ?_) (fun c_45 => ?_)
                                  · exact w_vret () hx hb hr hlk hP hD hS (trivial) dX1_turnStems_141
                                  · exact absurd c_45 (by decide)
                                · have hMi := hM 2 i c_100
                                  refine lv_aload_n hx hb dX1_turnStems_103 rfl (lv_at hl 0 rfl) ?_
                                  refine va_get (D := D) (ci := 1) (v := .ref (c 16)) (C := RX1) (T := TX1) (N := 15) hx hb hts hiX10 hown hK.1 hP 0 rfl rfl 2 (by decide) f3 (fun _ h9 => h9) rfl dX1_turnStems_104 ?_
                                  refine lv_aload hx hb dX1_turnStems_107 (lv_at hl 4 rfl) ?_
                                  refine va_get (D := D) (ci := 0) (v := .ref (c 33)) (C := RX0) (T := TX0) (N := 7) hx hb hts hiX00 hown hK.1 hP 18 rfl rfl 0 (by decide) f4 (fun _ h9 => h9) rfl dX1_turnStems_109 ?_
                                  refine lv_iload hx hb dX1_turnStems_112 (lv_at hl 5 rfl) ?_
                                  refine x_iald hx hb hK hP 19 0 rfl rfl (k := i) (by omega) (by decide) dX1_turnStems_114 ?_
                                  refine lv_aload hx hb dX1_turnStems_115 (lv_at hl 4 rfl) ?_
                                  refine va_get (D := D) (ci := 0) (v := .int (bv (cUp z lw hg U 2))) (C := RX0) (T := TX0) (N := 7) hx hb hts hiX00 hown hK.1 hP 18 rfl rfl 5 (by decide) f5 (fun _ h9 => h9) rfl dX1_turnStems_117 ?_
                                  refine x_ifeq (tgt := 127) hx hb dX1_turnStems_120 (by decide) (fun (c_120 : ¬ (cUp z lw hg U 2)) => ?_) (fun (c_120 : cUp z lw hg U 2) => ?_)
                                  · refine lv_iconst (v := 0) hx hb dX1_turnStems_127 (by decide) ?_
                                    refine x_tp (y := bv (cUp z lw hg U 2)) (bv_f c_120).symm ?_
                                    refine x_iast hx hb hK hP hD hS 2 0 rfl rfl (k := (M 2 i)) (by omega) (by decide) dX1_turnStems_128 (fun H locs hP hD hS => ?_)
                                    have hP : va_P D vwCl (lyW c cA cC sl l1 (upd (cStm (cStm (cStm l2 (M 0) (cUp z lw hg U 0) (z 0)) (M 1) (cUp z lw hg U 1) (z 1)) (M 2) (cUp z lw hg U 2) i) (M 2 i) (bv (cUp z lw hg U 2))) l3 l4 l5 C l7 l8 l9 (upd l10 ce (nI (cCnt z 3))) l11 l12 ++ kW (c 28) (c 31) cA (z 0) (lw 0) (hg 0) (O 0) (cUp z lw hg U 0) (mv 0) (M 0) ++ kW (c 29) (c 32) cA (z 1) (lw 1) (hg 1) (O 1) (cUp z lw hg U 1) (mv 1) (M 1) ++ kW (c 30) (c 33) cA (z 2) (lw 2) (hg 2) (O 2) (cUp z lw hg U 2) (mv 2) (M 2)) H := hP
                                    have hD : va_D (va_A (lyW c cA cC sl l1 l2 l3 l4 l5 C l7 l8 l9 l10 l11 l12 ++ kW (c 28) (c 31) cA (z 0) (lw 0) (hg 0) (O 0) (U 0) (mv 0) (M 0) ++ kW (c 29) (c 32) cA (z 1) (lw 1) (hg 1) (O 1) (U 1) (mv 1) (M 1) ++ kW (c 30) (c 33) cA (z 2) (lw 2) (hg 2) (O 2) (U 2) (mv 2) (M 2)) sz) (lyW c cA cC sl l1 (upd (cStm (cStm (cStm l2 (M 0) (cUp z lw hg U 0) (z 0)) (M 1) (cUp z lw hg U 1) (z 1)) (M 2) (cUp z lw hg U 2) i) (M 2 i) (bv (cUp z lw hg U 2))) l3 l4 l5 C l7 l8 l9 (upd l10 ce (nI (cCnt z 3))) l11 l12 ++ kW (c 28) (c 31) cA (z 0) (lw 0) (hg 0) (O 0) (cUp z lw hg U 0) (mv 0) (M 0) ++ kW (c 29) (c 32) cA (z 1) (lw 1) (hg 1) (O 1) (cUp z lw hg U 1) (mv 1) (M 1) ++ kW (c 30) (c 33) cA (z 2) (lw 2) (hg 2) (O 2) (cUp z lw hg U 2) (mv 2) (M 2)) := hD
                                    have hP : va_P D vwCl (lyW c cA cC sl l1 (cStm (cStm (cStm l2 (M 0) (cUp z lw hg U 0) (z 0)) (M 1) (cUp z lw hg U 1) (z 1)) (M 2) (cUp z lw hg U 2) (i + 1)) l3 l4 l5 C l7 l8 l9 (upd l10 ce (nI (cCnt z 3))) l11 l12 ++ kW (c 28) (c 31) cA (z 0) (lw 0) (hg 0) (O 0) (cUp z lw hg U 0) (mv 0) (M 0) ++ kW (c 29) (c 32) cA (z 1) (lw 1) (hg 1) (O 1) (cUp z lw hg U 1) (mv 1) (M 1) ++ kW (c 30) (c 33) cA (z 2) (lw 2) (hg 2) (O 2) (cUp z lw hg U 2) (mv 2) (M 2)) H := hP
                                    have hD : va_D (va_A (lyW c cA cC sl l1 l2 l3 l4 l5 C l7 l8 l9 l10 l11 l12 ++ kW (c 28) (c 31) cA (z 0) (lw 0) (hg 0) (O 0) (U 0) (mv 0) (M 0) ++ kW (c 29) (c 32) cA (z 1) (lw 1) (hg 1) (O 1) (U 1) (mv 1) (M 1) ++ kW (c 30) (c 33) cA (z 2) (lw 2) (hg 2) (O 2) (U 2) (mv 2) (M 2)) sz) (lyW c cA cC sl l1 (cStm (cStm (cStm l2 (M 0) (cUp z lw hg U 0) (z 0)) (M 1) (cUp z lw hg U 1) (z 1)) (M 2) (cUp z lw hg U 2) (i + 1)) l3 l4 l5 C l7 l8 l9 (upd l10 ce (nI (cCnt z 3))) l11 l12 ++ kW (c 28) (c 31) cA (z 0) (lw 0) (hg 0) (O 0) (cUp z lw hg U 0) (mv 0) (M 0) ++ kW (c 29) (c 32) cA (z 1) (lw 1) (hg 1) (O 1) (cUp z lw hg U 1) (mv 1) (M 1) ++ kW (c 30) (c 33) cA (z 2) (lw 2) (hg 2) (O 2) (cUp z lw hg U 2) (mv 2) (M 2)) := hD
                                    refine lv_iinc (v := nI (i + 1)) (lv' := [(5, .int (nI (i + 1))), (0, .ref (c 14)), (1, .int (nI ce)), (2, .int (bv (cLes z 3))), (3, .int (nI 2)), (4, .ref (c 30))]) hx hb dX1_turnStems_129 hl (k := 5) rfl (x_inc i) (by decide) rfl (fun ls hl => ?_)
                                    refine lv_goto (tgt := 93) hx hb dX1_turnStems_132 (by decide) ?_
                                    exact ihi (by omega) () _ _ _ trivial (lv_sub hl [1, 2, 3, 4, 5, 0] rfl) hP hD hS
                                  · refine lv_iconst (v := 1) hx hb dX1_turnStems_123 (by decide) ?_
                                    refine lv_goto (tgt := 128) hx hb dX1_turnStems_124 (by decide) ?_
                                    refine x_tp (y := bv (cUp z lw hg U 2)) (bv_t c_120).symm ?_
                                    refine x_iast hx hb hK hP hD hS 2 0 rfl rfl (k := (M 2 i)) (by omega) (by decide) dX1_turnStems_128 (fun H locs hP hD hS => ?_)
                                    have hP : va_P D vwCl (lyW c cA cC sl l1 (upd (cStm (cStm (cStm l2 (M 0) (cUp z lw hg U 0) (z 0)) (M 1) (cUp z lw hg U 1) (z 1)) (M 2) (cUp z lw hg U 2) i) (M 2 i) (bv (cUp z lw hg U 2))) l3 l4 l5 C l7 l8 l9 (upd l10 ce (nI (cCnt z 3))) l11 l12 ++ kW (c 28) (c 31) cA (z 0) (lw 0) (hg 0) (O 0) (cUp z lw hg U 0) (mv 0) (M 0) ++ kW (c 29) (c 32) cA (z 1) (lw 1) (hg 1) (O 1) (cUp z lw hg U 1) (mv 1) (M 1) ++ kW (c 30) (c 33) cA (z 2) (lw 2) (hg 2) (O 2) (cUp z lw hg U 2) (mv 2) (M 2)) H := hP
                                    have hD : va_D (va_A (lyW c cA cC sl l1 l2 l3 l4 l5 C l7 l8 l9 l10 l11 l12 ++ kW (c 28) (c 31) cA (z 0) (lw 0) (hg 0) (O 0) (U 0) (mv 0) (M 0) ++ kW (c 29) (c 32) cA (z 1) (lw 1) (hg 1) (O 1) (U 1) (mv 1) (M 1) ++ kW (c 30) (c 33) cA (z 2) (lw 2) (hg 2) (O 2) (U 2) (mv 2) (M 2)) sz) (lyW c cA cC sl l1 (upd (cStm (cStm (cStm l2 (M 0) (cUp z lw hg U 0) (z 0)) (M 1) (cUp z lw hg U 1) (z 1)) (M 2) (cUp z lw hg U 2) i) (M 2 i) (bv (cUp z lw hg U 2))) l3 l4 l5 C l7 l8 l9 (upd l10 ce (nI (cCnt z 3))) l11 l12 ++ kW (c 28) (c 31) cA (z 0) (lw 0) (hg 0) (O 0) (cUp z lw hg U 0) (mv 0) (M 0) ++ kW (c 29) (c 32) cA (z 1) (lw 1) (hg 1) (O 1) (cUp z lw hg U 1) (mv 1) (M 1) ++ kW (c 30) (c 33) cA (z 2) (lw 2) (hg 2) (O 2) (cUp z lw hg U 2) (mv 2) (M 2)) := hD
                                    have hP : va_P D vwCl (lyW c cA cC sl l1 (cStm (cStm (cStm l2 (M 0) (cUp z lw hg U 0) (z 0)) (M 1) (cUp z lw hg U 1) (z 1)) (M 2) (cUp z lw hg U 2) (i + 1)) l3 l4 l5 C l7 l8 l9 (upd l10 ce (nI (cCnt z 3))) l11 l12 ++ kW (c 28) (c 31) cA (z 0) (lw 0) (hg 0) (O 0) (cUp z lw hg U 0) (mv 0) (M 0) ++ kW (c 29) (c 32) cA (z 1) (lw 1) (hg 1) (O 1) (cUp z lw hg U 1) (mv 1) (M 1) ++ kW (c 30) (c 33) cA (z 2) (lw 2) (hg 2) (O 2) (cUp z lw hg U 2) (mv 2) (M 2)) H := hP
                                    have hD : va_D (va_A (lyW c cA cC sl l1 l2 l3 l4 l5 C l7 l8 l9 l10 l11 l12 ++ kW (c 28) (c 31) cA (z 0) (lw 0) (hg 0) (O 0) (U 0) (mv 0) (M 0) ++ kW (c 29) (c 32) cA (z 1) (lw 1) (hg 1) (O 1) (U 1) (mv 1) (M 1) ++ kW (c 30) (c 33) cA (z 2) (lw 2) (hg 2) (O 2) (U 2) (mv 2) (M 2)) sz) (lyW c cA cC sl l1 (cStm (cStm (cStm l2 (M 0) (cUp z lw hg U 0) (z 0)) (M 1) (cUp z lw hg U 1) (z 1)) (M 2) (cUp z lw hg U 2) (i + 1)) l3 l4 l5 C l7 l8 l9 (upd l10 ce (nI (cCnt z 3))) l11 l12 ++ kW (c 28) (c 31) cA (z 0) (lw 0) (hg 0) (O 0) (cUp z lw hg U 0) (mv 0) (M 0) ++ kW (c 29) (c 32) cA (z 1) (lw 1) (hg 1) (O 1) (cUp z lw hg U 1) (mv 1) (M 1) ++ kW (c 30) (c 33) cA (z 2) (lw 2) (hg 2) (O 2) (cUp z lw hg U 2) (mv 2) (M 2)) := hD
                                    refine lv_iinc (v := nI (i + 1)) (lv' := [(5, .int (nI (i + 1))), (0, .ref (c 14)), (1, .int (nI ce)), (2, .int (bv (cLes z 3))), (3, .int (nI 2)), (4, .ref (c 30))]) hx hb dX1_turnStems_129 hl (k := 5) rfl (x_inc i) (by decide) rfl (fun ls hl => ?_)
                                    refine lv_goto (tgt := 93) hx hb dX1_turnStems_132 (by decide) ?_
                                    exact ihi (by omega) () _ _ _ trivial (lv_sub hl [1, 2, 3, 4, 5, 0] rfl) hP hD hS
                              refine lv_aload hx hb dX1_turnStems_56 (lv_at hl 0 rfl) ?_
                              refine va_get (D := D) (ci := 0) (v := .int (nI (z 2))) (C := RX0) (T := TX0) (N := 7) hx hb hts hiX00 hown hK.1 hP 18 rfl rfl 1 (by decide) f2 (fun _ h9 => h9) rfl dX1_turnStems_58 ?_
                              refine x_cle (tgt := 90) hx hb dX1_turnStems_61 (by decide) (fun c_61 => ?_) (fun c_61 => ?_)
                              · have c_61 : ¬ 0 < z 2 := fun h => c_61 ((nI_pos0 (by have := hz 2; omega)).mpr h)
                                have hl := lv_cast (l' := [(4, .ref (c 30)), (3, .int (nI 2)), (0, .ref (c 14)), (1, .int (nI ce)), (2, .int (bv (cLes z 3))), (5, .int (nI (z 1)))]) hl (by rw [show bv (cLes z 2) = bv (cLes z 3) from (bv_iff (cLes_s c_61))])
                                have hwe : lyW c cA cC sl l1 (cStm (cStm l2 (M 0) (cUp z lw hg U 0) (z 0)) (M 1) (cUp z lw hg U 1) (z 1)) l3 l4 l5 C l7 l8 l9 (upd l10 ce (nI (cCnt z 3))) l11 l12 ++ kW (c 28) (c 31) cA (z 0) (lw 0) (hg 0) (O 0) (cUp z lw hg U 0) (mv 0) (M 0) ++ kW (c 29) (c 32) cA (z 1) (lw 1) (hg 1) (O 1) (cUp z lw hg U 1) (mv 1) (M 1) ++ kW (c 30) (c 33) cA (z 2) (lw 2) (hg 2) (O 2) (U 2) (mv 2) (M 2) = lyW c cA cC sl l1 (cStm (cStm l2 (M 0) (cUp z lw hg U 0) (z 0)) (M 1) (cUp z lw hg U 1) (z 1)) l3 l4 l5 C l7 l8 l9 (upd l10 ce (nI (cCnt z 3))) l11 l12 ++ kW (c 28) (c 31) cA (z 0) (lw 0) (hg 0) (O 0) (cUp z lw hg U 0) (mv 0) (M 0) ++ kW (c 29) (c 32) cA (z 1) (lw 1) (hg 1) (O 1) (cUp z lw hg U 1) (mv 1) (M 1) ++ kW (c 30) (c 33) cA (z 2) (lw 2) (hg 2) (O 2) (cUp z lw hg U 2) (mv 2) (M 2) := (by rw [show cUp z lw hg U 2 = U 2 from if_neg c_61])
                                rw [hwe] at hP hD
                                exact j_90 _ _ _ (lv_sub hl [0, 1, 2, 3, 4, 5] rfl) hP hD hS
                              · have c_61 : 0 < z 2 := (nI_pos0 (by have := hz 2; omega)).mp c_61
                                refine lv_aload hx hb dX1_turnStems_64 (lv_at hl 0 rfl) ?_
                                refine lv_aload_n hx hb dX1_turnStems_66 rfl (lv_at hl 2 rfl) ?_
                                refine va_get (D := D) (ci := 1) (v := .ref (c 24)) (C := RX1) (T := TX1) (N := 15) hx hb hts hiX10 hown hK.1 hP 0 rfl rfl 10 (by decide) f0 (fun _ h9 => h9) rfl dX1_turnStems_67 ?_
                                refine lv_iload_n hx hb dX1_turnStems_70 rfl (lv_at hl 3 rfl) ?_
                                refine x_iald hx hb hK hP 10 0 rfl rfl (k := ce) (by omega) (by decide) dX1_turnStems_71 ?_
                                refine x_tp (y := nI (cCnt z 3)) pk_us ?_
                                have hcn := cCnt_le z 3
                                refine lv_iconst (v := 1) hx hb dX1_turnStems_72 (by decide) ?_
                                refine x_tp (y := nI 1) (show (1 : Int32) = nI 1 from rfl) ?_
                                refine x_nle (tgt := 80) hx hb dX1_turnStems_73 (by decide) (by omega) (by omega) (fun c_73 => ?_) (fun c_73 => ?_)
                                · refine lv_aload hx hb dX1_turnStems_80 (lv_at hl 0 rfl) ?_
                                  refine rcVi (As := []) (rest := [.ref (c 30)]) ⟨hx, hb, hml, hown, hts⟩ (k0_liesLow l0 D cA (c 30) (c 33) (z 2) (lw 2) (hg 2) (O 2) (U 2) (mv 2) (M 2)) (cwV 0 hts gX1_turnStems_X0_liesLow rfl rfl rfl (by decide +kernel) ⟨Nat.le_of_ble_eq_true rfl, Nat.le_of_ble_eq_true rfl⟩) (va_recv hK.1 hP (ci := 0) (q0 := 18) rfl rfl) (hP.sub [18, 19] rfl) hK1 rfl hl.1 rfl (Nat.le_of_ble_eq_true rfl) dX1_turnStems_82 ⟨Nat.zero_le _, Nat.zero_le _⟩ ?_
                                  refine x_tp (y := bv (cUp z lw hg U 2)) (by rw [cUp, if_pos c_61, if_neg (by omega)]) ?_
                                  refine va_put (D := D) (ci := 0) (v := .int (bv (cUp z lw hg U 2))) (ty := .boolean) (C := RX0) (T := TX0) (N := 7) hx hb hts hiX00 tyX0 tyX0_ok nmX0 hown hK.1 hP hD hS 18 rfl rfl 5 (by decide) f5 (fun _ h9 => h9) rfl (by decide +kernel) bv_nar bv_fits (Nat.le_of_ble_eq_true rfl) dX1_turnStems_85 (fun H locs hP hD hS => ?_)
                                  have hP : va_P D vwCl (lyW c cA cC sl l1 (cStm (cStm l2 (M 0) (cUp z lw hg U 0) (z 0)) (M 1) (cUp z lw hg U 1) (z 1)) l3 l4 l5 C l7 l8 l9 (upd l10 ce (nI (cCnt z 3))) l11 l12 ++ kW (c 28) (c 31) cA (z 0) (lw 0) (hg 0) (O 0) (cUp z lw hg U 0) (mv 0) (M 0) ++ kW (c 29) (c 32) cA (z 1) (lw 1) (hg 1) (O 1) (cUp z lw hg U 1) (mv 1) (M 1) ++ kW (c 30) (c 33) cA (z 2) (lw 2) (hg 2) (O 2) (cUp z lw hg U 2) (mv 2) (M 2)) H := hP
                                  have hD : va_D (va_A (lyW c cA cC sl l1 l2 l3 l4 l5 C l7 l8 l9 l10 l11 l12 ++ kW (c 28) (c 31) cA (z 0) (lw 0) (hg 0) (O 0) (U 0) (mv 0) (M 0) ++ kW (c 29) (c 32) cA (z 1) (lw 1) (hg 1) (O 1) (U 1) (mv 1) (M 1) ++ kW (c 30) (c 33) cA (z 2) (lw 2) (hg 2) (O 2) (U 2) (mv 2) (M 2)) sz) (lyW c cA cC sl l1 (cStm (cStm l2 (M 0) (cUp z lw hg U 0) (z 0)) (M 1) (cUp z lw hg U 1) (z 1)) l3 l4 l5 C l7 l8 l9 (upd l10 ce (nI (cCnt z 3))) l11 l12 ++ kW (c 28) (c 31) cA (z 0) (lw 0) (hg 0) (O 0) (cUp z lw hg U 0) (mv 0) (M 0) ++ kW (c 29) (c 32) cA (z 1) (lw 1) (hg 1) (O 1) (cUp z lw hg U 1) (mv 1) (M 1) ++ kW (c 30) (c 33) cA (z 2) (lw 2) (hg 2) (O 2) (cUp z lw hg U 2) (mv 2) (M 2)) := hD
                                  refine lv_iconst (v := 0) hx hb dX1_turnStems_88 (by decide) ?_
                                  refine x_tp (y := bv (cLes z 3)) (bv_f (fun h => absurd (h 2 (by decide)) (by omega))).symm ?_
                                  refine lv_istore_n (lv' := [(2, .int (bv (cLes z 3))), (4, .ref (c 30)), (3, .int (nI 2)), (0, .ref (c 14)), (1, .int (nI ce)), (5, .int (nI (z 1)))]) hx hb dX1_turnStems_89 rfl hl (by decide) rfl (fun ls hl => ?_)
                                  exact j_90 _ _ _ (lv_sub hl [1, 2, 3, 4, 0, 5] rfl) hP hD hS
                                · refine lv_iload_n hx hb dX1_turnStems_76 rfl (lv_at hl 4 rfl) ?_
                                  refine lv_goto (tgt := 85) hx hb dX1_turnStems_77 (by decide) ?_
                                  refine x_tp (y := bv (cUp z lw hg U 2)) (by rw [cUp, if_pos c_61, if_pos c_73]) ?_
                                  refine va_put (D := D) (ci := 0) (v := .int (bv (cUp z lw hg U 2))) (ty := .boolean) (C := RX0) (T := TX0) (N := 7) hx hb hts hiX00 tyX0 tyX0_ok nmX0 hown hK.1 hP hD hS 18 rfl rfl 5 (by decide) f5 (fun _ h9 => h9) rfl (by decide +kernel) bv_nar bv_fits (Nat.le_of_ble_eq_true rfl) dX1_turnStems_85 (fun H locs hP hD hS => ?_)
                                  have hP : va_P D vwCl (lyW c cA cC sl l1 (cStm (cStm l2 (M 0) (cUp z lw hg U 0) (z 0)) (M 1) (cUp z lw hg U 1) (z 1)) l3 l4 l5 C l7 l8 l9 (upd l10 ce (nI (cCnt z 3))) l11 l12 ++ kW (c 28) (c 31) cA (z 0) (lw 0) (hg 0) (O 0) (cUp z lw hg U 0) (mv 0) (M 0) ++ kW (c 29) (c 32) cA (z 1) (lw 1) (hg 1) (O 1) (cUp z lw hg U 1) (mv 1) (M 1) ++ kW (c 30) (c 33) cA (z 2) (lw 2) (hg 2) (O 2) (cUp z lw hg U 2) (mv 2) (M 2)) H := hP
                                  have hD : va_D (va_A (lyW c cA cC sl l1 l2 l3 l4 l5 C l7 l8 l9 l10 l11 l12 ++ kW (c 28) (c 31) cA (z 0) (lw 0) (hg 0) (O 0) (U 0) (mv 0) (M 0) ++ kW (c 29) (c 32) cA (z 1) (lw 1) (hg 1) (O 1) (U 1) (mv 1) (M 1) ++ kW (c 30) (c 33) cA (z 2) (lw 2) (hg 2) (O 2) (U 2) (mv 2) (M 2)) sz) (lyW c cA cC sl l1 (cStm (cStm l2 (M 0) (cUp z lw hg U 0) (z 0)) (M 1) (cUp z lw hg U 1) (z 1)) l3 l4 l5 C l7 l8 l9 (upd l10 ce (nI (cCnt z 3))) l11 l12 ++ kW (c 28) (c 31) cA (z 0) (lw 0) (hg 0) (O 0) (cUp z lw hg U 0) (mv 0) (M 0) ++ kW (c 29) (c 32) cA (z 1) (lw 1) (hg 1) (O 1) (cUp z lw hg U 1) (mv 1) (M 1) ++ kW (c 30) (c 33) cA (z 2) (lw 2) (hg 2) (O 2) (cUp z lw hg U 2) (mv 2) (M 2)) := hD
                                  refine lv_iconst (v := 0) hx hb dX1_turnStems_88 (by decide) ?_
                                  refine x_tp (y := bv (cLes z 3)) (bv_f (fun h => absurd (h 2 (by decide)) (by omega))).symm ?_
                                  refine lv_istore_n (lv' := [(2, .int (bv (cLes z 3))), (4, .ref (c 30)), (3, .int (nI 2)), (0, .ref (c 14)), (1, .int (nI ce)), (5, .int (nI (z 1)))]) hx hb dX1_turnStems_89 rfl hl (by decide) rfl (fun ls hl => ?_)
                                  exact j_90 _ _ _ (lv_sub hl [1, 2, 3, 4, 0, 5] rfl) hP hD hS
                          · have hMi := hM 1 i c_100
                            refine lv_aload_n hx hb dX1_turnStems_103 rfl (lv_at hl 0 rfl) ?_
                            refine va_get (D := D) (ci := 1) (v := .ref (c 16)) (C := RX1) (T := TX1) (N := 15) hx hb hts hiX10 hown hK.1 hP 0 rfl rfl 2 (by decide) f3 (fun _ h9 => h9) rfl dX1_turnStems_104 ?_
                            refine lv_aload hx hb dX1_turnStems_107 (lv_at hl 4 rfl) ?_
                            refine va_get (D := D) (ci := 0) (v := .ref (c 32)) (C := RX0) (T := TX0) (N := 7) hx hb hts hiX00 hown hK.1 hP 16 rfl rfl 0 (by decide) f4 (fun _ h9 => h9) rfl dX1_turnStems_109 ?_
                            refine lv_iload hx hb dX1_turnStems_112 (lv_at hl 5 rfl) ?_
                            refine x_iald hx hb hK hP 17 0 rfl rfl (k := i) (by omega) (by decide) dX1_turnStems_114 ?_
                            refine lv_aload hx hb dX1_turnStems_115 (lv_at hl 4 rfl) ?_
                            refine va_get (D := D) (ci := 0) (v := .int (bv (cUp z lw hg U 1))) (C := RX0) (T := TX0) (N := 7) hx hb hts hiX00 hown hK.1 hP 16 rfl rfl 5 (by decide) f5 (fun _ h9 => h9) rfl dX1_turnStems_117 ?_
                            refine x_ifeq (tgt := 127) hx hb dX1_turnStems_120 (by decide) (fun (c_120 : ¬ (cUp z lw hg U 1)) => ?_) (fun (c_120 : cUp z lw hg U 1) => ?_)
                            · refine lv_iconst (v := 0) hx hb dX1_turnStems_127 (by decide) ?_
                              refine x_tp (y := bv (cUp z lw hg U 1)) (bv_f c_120).symm ?_
                              refine x_iast hx hb hK hP hD hS 2 0 rfl rfl (k := (M 1 i)) (by omega) (by decide) dX1_turnStems_128 (fun H locs hP hD hS => ?_)
                              have hP : va_P D vwCl (lyW c cA cC sl l1 (upd (cStm (cStm l2 (M 0) (cUp z lw hg U 0) (z 0)) (M 1) (cUp z lw hg U 1) i) (M 1 i) (bv (cUp z lw hg U 1))) l3 l4 l5 C l7 l8 l9 (upd l10 ce (nI (cCnt z 3))) l11 l12 ++ kW (c 28) (c 31) cA (z 0) (lw 0) (hg 0) (O 0) (cUp z lw hg U 0) (mv 0) (M 0) ++ kW (c 29) (c 32) cA (z 1) (lw 1) (hg 1) (O 1) (cUp z lw hg U 1) (mv 1) (M 1) ++ kW (c 30) (c 33) cA (z 2) (lw 2) (hg 2) (O 2) (U 2) (mv 2) (M 2)) H := hP
                              have hD : va_D (va_A (lyW c cA cC sl l1 l2 l3 l4 l5 C l7 l8 l9 l10 l11 l12 ++ kW (c 28) (c 31) cA (z 0) (lw 0) (hg 0) (O 0) (U 0) (mv 0) (M 0) ++ kW (c 29) (c 32) cA (z 1) (lw 1) (hg 1) (O 1) (U 1) (mv 1) (M 1) ++ kW (c 30) (c 33) cA (z 2) (lw 2) (hg 2) (O 2) (U 2) (mv 2) (M 2)) sz) (lyW c cA cC sl l1 (upd (cStm (cStm l2 (M 0) (cUp z lw hg U 0) (z 0)) (M 1) (cUp z lw hg U 1) i) (M 1 i) (bv (cUp z lw hg U 1))) l3 l4 l5 C l7 l8 l9 (upd l10 ce (nI (cCnt z 3))) l11 l12 ++ kW (c 28) (c 31) cA (z 0) (lw 0) (hg 0) (O 0) (cUp z lw hg U 0) (mv 0) (M 0) ++ kW (c 29) (c 32) cA (z 1) (lw 1) (hg 1) (O 1) (cUp z lw hg U 1) (mv 1) (M 1) ++ kW (c 30) (c 33) cA (z 2) (lw 2) (hg 2) (O 2) (U 2) (mv 2) (M 2)) := hD
                              have hP : va_P D vwCl (lyW c cA cC sl l1 (cStm (cStm l2 (M 0) (cUp z lw hg U 0) (z 0)) (M 1) (cUp z lw hg U 1) (i + 1)) l3 l4 l5 C l7 l8 l9 (upd l10 ce (nI (cCnt z 3))) l11 l12 ++ kW (c 28) (c 31) cA (z 0) (lw 0) (hg 0) (O 0) (cUp z lw hg U 0) (mv 0) (M 0) ++ kW (c 29) (c 32) cA (z 1) (lw 1) (hg 1) (O 1) (cUp z lw hg U 1) (mv 1) (M 1) ++ kW (c 30) (c 33) cA (z 2) (lw 2) (hg 2) (O 2) (U 2) (mv 2) (M 2)) H := hP
                              have hD : va_D (va_A (lyW c cA cC sl l1 l2 l3 l4 l5 C l7 l8 l9 l10 l11 l12 ++ kW (c 28) (c 31) cA (z 0) (lw 0) (hg 0) (O 0) (U 0) (mv 0) (M 0) ++ kW (c 29) (c 32) cA (z 1) (lw 1) (hg 1) (O 1) (U 1) (mv 1) (M 1) ++ kW (c 30) (c 33) cA (z 2) (lw 2) (hg 2) (O 2) (U 2) (mv 2) (M 2)) sz) (lyW c cA cC sl l1 (cStm (cStm l2 (M 0) (cUp z lw hg U 0) (z 0)) (M 1) (cUp z lw hg U 1) (i + 1)) l3 l4 l5 C l7 l8 l9 (upd l10 ce (nI (cCnt z 3))) l11 l12 ++ kW (c 28) (c 31) cA (z 0) (lw 0) (hg 0) (O 0) (cUp z lw hg U 0) (mv 0) (M 0) ++ kW (c 29) (c 32) cA (z 1) (lw 1) (hg 1) (O 1) (cUp z lw hg U 1) (mv 1) (M 1) ++ kW (c 30) (c 33) cA (z 2) (lw 2) (hg 2) (O 2) (U 2) (mv 2) (M 2)) := hD
                              refine lv_iinc (v := nI (i + 1)) (lv' := [(5, .int (nI (i + 1))), (0, .ref (c 14)), (1, .int (nI ce)), (2, .int (bv (cLes z 2))), (3, .int (nI 1)), (4, .ref (c 29))]) hx hb dX1_turnStems_129 hl (k := 5) rfl (x_inc i) (by decide) rfl (fun ls hl => ?_)
                              refine lv_goto (tgt := 93) hx hb dX1_turnStems_132 (by decide) ?_
                              exact ihi (by omega) () _ _ _ trivial (lv_sub hl [1, 2, 3, 4, 5, 0] rfl) hP hD hS
                            · refine lv_iconst (v := 1) hx hb dX1_turnStems_123 (by decide) ?_
                              refine lv_goto (tgt := 128) hx hb dX1_turnStems_124 (by decide) ?_
                              refine x_tp (y := bv (cUp z lw hg U 1)) (bv_t c_120).symm ?_
                              refine x_iast hx hb hK hP hD hS 2 0 rfl rfl (k := (M 1 i)) (by omega) (by decide) dX1_turnStems_128 (fun H locs hP hD hS => ?_)
                              have hP : va_P D vwCl (lyW c cA cC sl l1 (upd (cStm (cStm l2 (M 0) (cUp z lw hg U 0) (z 0)) (M 1) (cUp z lw hg U 1) i) (M 1 i) (bv (cUp z lw hg U 1))) l3 l4 l5 C l7 l8 l9 (upd l10 ce (nI (cCnt z 3))) l11 l12 ++ kW (c 28) (c 31) cA (z 0) (lw 0) (hg 0) (O 0) (cUp z lw hg U 0) (mv 0) (M 0) ++ kW (c 29) (c 32) cA (z 1) (lw 1) (hg 1) (O 1) (cUp z lw hg U 1) (mv 1) (M 1) ++ kW (c 30) (c 33) cA (z 2) (lw 2) (hg 2) (O 2) (U 2) (mv 2) (M 2)) H := hP
                              have hD : va_D (va_A (lyW c cA cC sl l1 l2 l3 l4 l5 C l7 l8 l9 l10 l11 l12 ++ kW (c 28) (c 31) cA (z 0) (lw 0) (hg 0) (O 0) (U 0) (mv 0) (M 0) ++ kW (c 29) (c 32) cA (z 1) (lw 1) (hg 1) (O 1) (U 1) (mv 1) (M 1) ++ kW (c 30) (c 33) cA (z 2) (lw 2) (hg 2) (O 2) (U 2) (mv 2) (M 2)) sz) (lyW c cA cC sl l1 (upd (cStm (cStm l2 (M 0) (cUp z lw hg U 0) (z 0)) (M 1) (cUp z lw hg U 1) i) (M 1 i) (bv (cUp z lw hg U 1))) l3 l4 l5 C l7 l8 l9 (upd l10 ce (nI (cCnt z 3))) l11 l12 ++ kW (c 28) (c 31) cA (z 0) (lw 0) (hg 0) (O 0) (cUp z lw hg U 0) (mv 0) (M 0) ++ kW (c 29) (c 32) cA (z 1) (lw 1) (hg 1) (O 1) (cUp z lw hg U 1) (mv 1) (M 1) ++ kW (c 30) (c 33) cA (z 2) (lw 2) (hg 2) (O 2) (U 2) (mv 2) (M 2)) := hD
                              have hP : va_P D vwCl (lyW c cA cC sl l1 (cStm (cStm l2 (M 0) (cUp z lw hg U 0) (z 0)) (M 1) (cUp z lw hg U 1) (i + 1)) l3 l4 l5 C l7 l8 l9 (upd l10 ce (nI (cCnt z 3))) l11 l12 ++ kW (c 28) (c 31) cA (z 0) (lw 0) (hg 0) (O 0) (cUp z lw hg U 0) (mv 0) (M 0) ++ kW (c 29) (c 32) cA (z 1) (lw 1) (hg 1) (O 1) (cUp z lw hg U 1) (mv 1) (M 1) ++ kW (c 30) (c 33) cA (z 2) (lw 2) (hg 2) (O 2) (U 2) (mv 2) (M 2)) H := hP
                              have hD : va_D (va_A (lyW c cA cC sl l1 l2 l3 l4 l5 C l7 l8 l9 l10 l11 l12 ++ kW (c 28) (c 31) cA (z 0) (lw 0) (hg 0) (O 0) (U 0) (mv 0) (M 0) ++ kW (c 29) (c 32) cA (z 1) (lw 1) (hg 1) (O 1) (U 1) (mv 1) (M 1) ++ kW (c 30) (c 33) cA (z 2) (lw 2) (hg 2) (O 2) (U 2) (mv 2) (M 2)) sz) (lyW c cA cC sl l1 (cStm (cStm l2 (M 0) (cUp z lw hg U 0) (z 0)) (M 1) (cUp z lw hg U 1) (i + 1)) l3 l4 l5 C l7 l8 l9 (upd l10 ce (nI (cCnt z 3))) l11 l12 ++ kW (c 28) (c 31) cA (z 0) (lw 0) (hg 0) (O 0) (cUp z lw hg U 0) (mv 0) (M 0) ++ kW (c 29) (c 32) cA (z 1) (lw 1) (hg 1) (O 1) (cUp z lw hg U 1) (mv 1) (M 1) ++ kW (c 30) (c 33) cA (z 2) (lw 2) (hg 2) (O 2) (U 2) (mv 2) (M 2)) := hD
                              refine lv_iinc (v := nI (i + 1)) (lv' := [(5, .int (nI (i + 1))), (0, .ref (c 14)), (1, .int (nI ce)), (2, .int (bv (cLes z 2))), (3, .int (nI 1)), (4, .ref (c 29))]) hx hb dX1_turnStems_129 hl (k := 5) rfl (x_inc i) (by decide) rfl (fun ls hl => ?_)
                              refine lv_goto (tgt := 93) hx hb dX1_turnStems_132 (by decide) ?_
                              exact ihi (by omega) () _ _ _ trivial (lv_sub hl [1, 2, 3, 4, 5, 0] rfl) hP hD hS
                        refine lv_aload hx hb dX1_turnStems_56 (lv_at hl 0 rfl) ?_
                        refine va_get (D := D) (ci := 0) (v := .int (nI (z 1))) (C := RX0) (T := TX0) (N := 7) hx hb hts hiX00 hown hK.1 hP 16 rfl rfl 1 (by decide) f2 (fun _ h9 => h9) rfl dX1_turnStems_58 ?_
                        refine x_cle (tgt := 90) hx hb dX1_turnStems_61 (by decide) (fun c_61 => ?_) (fun c_61 => ?_)
                        · have c_61 : ¬ 0 < z 1 := fun h => c_61 ((nI_pos0 (by have := hz 1; omega)).mpr h)
                          have hl := lv_cast (l' := [(4, .ref (c 29)), (3, .int (nI 1)), (0, .ref (c 14)), (1, .int (nI ce)), (2, .int (bv (cLes z 2))), (5, .int (nI (z 0)))]) hl (by rw [show bv (cLes z 1) = bv (cLes z 2) from (bv_iff (cLes_s c_61))])
                          have hwe : lyW c cA cC sl l1 (cStm l2 (M 0) (cUp z lw hg U 0) (z 0)) l3 l4 l5 C l7 l8 l9 (upd l10 ce (nI (cCnt z 3))) l11 l12 ++ kW (c 28) (c 31) cA (z 0) (lw 0) (hg 0) (O 0) (cUp z lw hg U 0) (mv 0) (M 0) ++ kW (c 29) (c 32) cA (z 1) (lw 1) (hg 1) (O 1) (U 1) (mv 1) (M 1) ++ kW (c 30) (c 33) cA (z 2) (lw 2) (hg 2) (O 2) (U 2) (mv 2) (M 2) = lyW c cA cC sl l1 (cStm l2 (M 0) (cUp z lw hg U 0) (z 0)) l3 l4 l5 C l7 l8 l9 (upd l10 ce (nI (cCnt z 3))) l11 l12 ++ kW (c 28) (c 31) cA (z 0) (lw 0) (hg 0) (O 0) (cUp z lw hg U 0) (mv 0) (M 0) ++ kW (c 29) (c 32) cA (z 1) (lw 1) (hg 1) (O 1) (cUp z lw hg U 1) (mv 1) (M 1) ++ kW (c 30) (c 33) cA (z 2) (lw 2) (hg 2) (O 2) (U 2) (mv 2) (M 2) := (by rw [show cUp z lw hg U 1 = U 1 from if_neg c_61])
                          rw [hwe] at hP hD
                          exact j_90 _ _ _ (lv_sub hl [0, 1, 2, 3, 4, 5] rfl) hP hD hS
                        · have c_61 : 0 < z 1 := (nI_pos0 (by have := hz 1; omega)).mp c_61
                          refine lv_aload hx hb dX1_turnStems_64 (lv_at hl 0 rfl) ?_
                          refine lv_aload_n hx hb dX1_turnStems_66 rfl (lv_at hl 2 rfl) ?_
                          refine va_get (D := D) (ci := 1) (v := .ref (c 24)) (C := RX1) (T := TX1) (N := 15) hx hb hts hiX10 hown hK.1 hP 0 rfl rfl 10 (by decide) f0 (fun _ h9 => h9) rfl dX1_turnStems_67 ?_
                          refine lv_iload_n hx hb dX1_turnStems_70 rfl (lv_at hl 3 rfl) ?_
                          refine x_iald hx hb hK hP 10 0 rfl rfl (k := ce) (by omega) (by decide) dX1_turnStems_71 ?_
                          refine x_tp (y := nI (cCnt z 3)) pk_us ?_
                          have hcn := cCnt_le z 3
                          refine lv_iconst (v := 1) hx hb dX1_turnStems_72 (by decide) ?_
                          refine x_tp (y := nI 1) (show (1 : Int32) = nI 1 from rfl) ?_
                          refine x_nle (tgt := 80) hx hb dX1_turnStems_73 (by decide) (by omega) (by omega) (fun c_73 => ?_) (fun c_73 => ?_)
                          · refine lv_aload hx hb dX1_turnStems_80 (lv_at hl 0 rfl) ?_
                            refine rcVi (As := []) (rest := [.ref (c 29)]) ⟨hx, hb, hml, hown, hts⟩ (k0_liesLow l0 D cA (c 29) (c 32) (z 1) (lw 1) (hg 1) (O 1) (U 1) (mv 1) (M 1)) (cwV 0 hts gX1_turnStems_X0_liesLow rfl rfl rfl (by decide +kernel) ⟨Nat.le_of_ble_eq_true rfl, Nat.le_of_ble_eq_true rfl⟩) (va_recv hK.1 hP (ci := 0) (q0 := 16) rfl rfl) (hP.sub [16, 17] rfl) hK1 rfl hl.1 rfl (Nat.le_of_ble_eq_true rfl) dX1_turnStems_82 ⟨Nat.zero_le _, Nat.zero_le _⟩ ?_
                            refine x_tp (y := bv (cUp z lw hg U 1)) (by rw [cUp, if_pos c_61, if_neg (by omega)]) ?_
                            refine va_put (D := D) (ci := 0) (v := .int (bv (cUp z lw hg U 1))) (ty := .boolean) (C := RX0) (T := TX0) (N := 7) hx hb hts hiX00 tyX0 tyX0_ok nmX0 hown hK.1 hP hD hS 16 rfl rfl 5 (by decide) f5 (fun _ h9 => h9) rfl (by decide +kernel) bv_nar bv_fits (Nat.le_of_ble_eq_true rfl) dX1_turnStems_85 (fun H locs hP hD hS => ?_)
                            have hP : va_P D vwCl (lyW c cA cC sl l1 (cStm l2 (M 0) (cUp z lw hg U 0) (z 0)) l3 l4 l5 C l7 l8 l9 (upd l10 ce (nI (cCnt z 3))) l11 l12 ++ kW (c 28) (c 31) cA (z 0) (lw 0) (hg 0) (O 0) (cUp z lw hg U 0) (mv 0) (M 0) ++ kW (c 29) (c 32) cA (z 1) (lw 1) (hg 1) (O 1) (cUp z lw hg U 1) (mv 1) (M 1) ++ kW (c 30) (c 33) cA (z 2) (lw 2) (hg 2) (O 2) (U 2) (mv 2) (M 2)) H := hP
                            have hD : va_D (va_A (lyW c cA cC sl l1 l2 l3 l4 l5 C l7 l8 l9 l10 l11 l12 ++ kW (c 28) (c 31) cA (z 0) (lw 0) (hg 0) (O 0) (U 0) (mv 0) (M 0) ++ kW (c 29) (c 32) cA (z 1) (lw 1) (hg 1) (O 1) (U 1) (mv 1) (M 1) ++ kW (c 30) (c 33) cA (z 2) (lw 2) (hg 2) (O 2) (U 2) (mv 2) (M 2)) sz) (lyW c cA cC sl l1 (cStm l2 (M 0) (cUp z lw hg U 0) (z 0)) l3 l4 l5 C l7 l8 l9 (upd l10 ce (nI (cCnt z 3))) l11 l12 ++ kW (c 28) (c 31) cA (z 0) (lw 0) (hg 0) (O 0) (cUp z lw hg U 0) (mv 0) (M 0) ++ kW (c 29) (c 32) cA (z 1) (lw 1) (hg 1) (O 1) (cUp z lw hg U 1) (mv 1) (M 1) ++ kW (c 30) (c 33) cA (z 2) (lw 2) (hg 2) (O 2) (U 2) (mv 2) (M 2)) := hD
                            refine lv_iconst (v := 0) hx hb dX1_turnStems_88 (by decide) ?_
                            refine x_tp (y := bv (cLes z 2)) (bv_f (fun h => absurd (h 1 (by decide)) (by omega))).symm ?_
                            refine lv_istore_n (lv' := [(2, .int (bv (cLes z 2))), (4, .ref (c 29)), (3, .int (nI 1)), (0, .ref (c 14)), (1, .int (nI ce)), (5, .int (nI (z 0)))]) hx hb dX1_turnStems_89 rfl hl (by decide) rfl (fun ls hl => ?_)
                            exact j_90 _ _ _ (lv_sub hl [1, 2, 3, 4, 0, 5] rfl) hP hD hS
                          · refine lv_iload_n hx hb dX1_turnStems_76 rfl (lv_at hl 4 rfl) ?_
                            refine lv_goto (tgt := 85) hx hb dX1_turnStems_77 (by decide) ?_
                            refine x_tp (y := bv (cUp z lw hg U 1)) (by rw [cUp, if_pos c_61, if_pos c_73]) ?_
                            refine va_put (D := D) (ci := 0) (v := .int (bv (cUp z lw hg U 1))) (ty := .boolean) (C := RX0) (T := TX0) (N := 7) hx hb hts hiX00 tyX0 tyX0_ok nmX0 hown hK.1 hP hD hS 16 rfl rfl 5 (by decide) f5 (fun _ h9 => h9) rfl (by decide +kernel) bv_nar bv_fits (Nat.le_of_ble_eq_true rfl) dX1_turnStems_85 (fun H locs hP hD hS => ?_)
                            have hP : va_P D vwCl (lyW c cA cC sl l1 (cStm l2 (M 0) (cUp z lw hg U 0) (z 0)) l3 l4 l5 C l7 l8 l9 (upd l10 ce (nI (cCnt z 3))) l11 l12 ++ kW (c 28) (c 31) cA (z 0) (lw 0) (hg 0) (O 0) (cUp z lw hg U 0) (mv 0) (M 0) ++ kW (c 29) (c 32) cA (z 1) (lw 1) (hg 1) (O 1) (cUp z lw hg U 1) (mv 1) (M 1) ++ kW (c 30) (c 33) cA (z 2) (lw 2) (hg 2) (O 2) (U 2) (mv 2) (M 2)) H := hP
                            have hD : va_D (va_A (lyW c cA cC sl l1 l2 l3 l4 l5 C l7 l8 l9 l10 l11 l12 ++ kW (c 28) (c 31) cA (z 0) (lw 0) (hg 0) (O 0) (U 0) (mv 0) (M 0) ++ kW (c 29) (c 32) cA (z 1) (lw 1) (hg 1) (O 1) (U 1) (mv 1) (M 1) ++ kW (c 30) (c 33) cA (z 2) (lw 2) (hg 2) (O 2) (U 2) (mv 2) (M 2)) sz) (lyW c cA cC sl l1 (cStm l2 (M 0) (cUp z lw hg U 0) (z 0)) l3 l4 l5 C l7 l8 l9 (upd l10 ce (nI (cCnt z 3))) l11 l12 ++ kW (c 28) (c 31) cA (z 0) (lw 0) (hg 0) (O 0) (cUp z lw hg U 0) (mv 0) (M 0) ++ kW (c 29) (c 32) cA (z 1) (lw 1) (hg 1) (O 1) (cUp z lw hg U 1) (mv 1) (M 1) ++ kW (c 30) (c 33) cA (z 2) (lw 2) (hg 2) (O 2) (U 2) (mv 2) (M 2)) := hD
                            refine lv_iconst (v := 0) hx hb dX1_turnStems_88 (by decide) ?_
                            refine x_tp (y := bv (cLes z 2)) (bv_f (fun h => absurd (h 1 (by decide)) (by omega))).symm ?_
                            refine lv_istore_n (lv' := [(2, .int (bv (cLes z 2))), (4, .ref (c 29)), (3, .int (nI 1)), (0, .ref (c 14)), (1, .int (nI ce)), (5, .int (nI (z 0)))]) hx hb dX1_turnStems_89 rfl hl (by decide) rfl (fun ls hl => ?_)
                            exact j_90 _ _ _ (lv_sub hl [1, 2, 3, 4, 0, 5] rfl) hP hD hS
                    · have hMi := hM 0 i c_100
                      refine lv_aload_n hx hb dX1_turnStems_103 rfl (lv_at hl 0 rfl) ?_
                      refine va_get (D := D) (ci := 1) (v := .ref (c 16)) (C := RX1) (T := TX1) (N := 15) hx hb hts hiX10 hown hK.1 hP 0 rfl rfl 2 (by decide) f3 (fun _ h9 => h9) rfl dX1_turnStems_104 ?_
                      refine lv_aload hx hb dX1_turnStems_107 (lv_at hl 4 rfl) ?_
                      refine va_get (D := D) (ci := 0) (v := .ref (c 31)) (C := RX0) (T := TX0) (N := 7) hx hb hts hiX00 hown hK.1 hP 14 rfl rfl 0 (by decide) f4 (fun _ h9 => h9) rfl dX1_turnStems_109 ?_
                      refine lv_iload hx hb dX1_turnStems_112 (lv_at hl 5 rfl) ?_
                      refine x_iald hx hb hK hP 15 0 rfl rfl (k := i) (by omega) (by decide) dX1_turnStems_114 ?_
                      refine lv_aload hx hb dX1_turnStems_115 (lv_at hl 4 rfl) ?_
                      refine va_get (D := D) (ci := 0) (v := .int (bv (cUp z lw hg U 0))) (C := RX0) (T := TX0) (N := 7) hx hb hts hiX00 hown hK.1 hP 14 rfl rfl 5 (by decide) f5 (fun _ h9 => h9) rfl dX1_turnStems_117 ?_
                      refine x_ifeq (tgt := 127) hx hb dX1_turnStems_120 (by decide) (fun (c_120 : ¬ (cUp z lw hg U 0)) => ?_) (fun (c_120 : cUp z lw hg U 0) => ?_)
                      · refine lv_iconst (v := 0) hx hb dX1_turnStems_127 (by decide) ?_
                        refine x_tp (y := bv (cUp z lw hg U 0)) (bv_f c_120).symm ?_
                        refine x_iast hx hb hK hP hD hS 2 0 rfl rfl (k := (M 0 i)) (by omega) (by decide) dX1_turnStems_128 (fun H locs hP hD hS => ?_)
                        have hP : va_P D vwCl (lyW c cA cC sl l1 (upd (cStm l2 (M 0) (cUp z lw hg U 0) i) (M 0 i) (bv (cUp z lw hg U 0))) l3 l4 l5 C l7 l8 l9 (upd l10 ce (nI (cCnt z 3))) l11 l12 ++ kW (c 28) (c 31) cA (z 0) (lw 0) (hg 0) (O 0) (cUp z lw hg U 0) (mv 0) (M 0) ++ kW (c 29) (c 32) cA (z 1) (lw 1) (hg 1) (O 1) (U 1) (mv 1) (M 1) ++ kW (c 30) (c 33) cA (z 2) (lw 2) (hg 2) (O 2) (U 2) (mv 2) (M 2)) H := hP
                        have hD : va_D (va_A (lyW c cA cC sl l1 l2 l3 l4 l5 C l7 l8 l9 l10 l11 l12 ++ kW (c 28) (c 31) cA (z 0) (lw 0) (hg 0) (O 0) (U 0) (mv 0) (M 0) ++ kW (c 29) (c 32) cA (z 1) (lw 1) (hg 1) (O 1) (U 1) (mv 1) (M 1) ++ kW (c 30) (c 33) cA (z 2) (lw 2) (hg 2) (O 2) (U 2) (mv 2) (M 2)) sz) (lyW c cA cC sl l1 (upd (cStm l2 (M 0) (cUp z lw hg U 0) i) (M 0 i) (bv (cUp z lw hg U 0))) l3 l4 l5 C l7 l8 l9 (upd l10 ce (nI (cCnt z 3))) l11 l12 ++ kW (c 28) (c 31) cA (z 0) (lw 0) (hg 0) (O 0) (cUp z lw hg U 0) (mv 0) (M 0) ++ kW (c 29) (c 32) cA (z 1) (lw 1) (hg 1) (O 1) (U 1) (mv 1) (M 1) ++ kW (c 30) (c 33) cA (z 2) (lw 2) (hg 2) (O 2) (U 2) (mv 2) (M 2)) := hD
                        have hP : va_P D vwCl (lyW c cA cC sl l1 (cStm l2 (M 0) (cUp z lw hg U 0) (i + 1)) l3 l4 l5 C l7 l8 l9 (upd l10 ce (nI (cCnt z 3))) l11 l12 ++ kW (c 28) (c 31) cA (z 0) (lw 0) (hg 0) (O 0) (cUp z lw hg U 0) (mv 0) (M 0) ++ kW (c 29) (c 32) cA (z 1) (lw 1) (hg 1) (O 1) (U 1) (mv 1) (M 1) ++ kW (c 30) (c 33) cA (z 2) (lw 2) (hg 2) (O 2) (U 2) (mv 2) (M 2)) H := hP
                        have hD : va_D (va_A (lyW c cA cC sl l1 l2 l3 l4 l5 C l7 l8 l9 l10 l11 l12 ++ kW (c 28) (c 31) cA (z 0) (lw 0) (hg 0) (O 0) (U 0) (mv 0) (M 0) ++ kW (c 29) (c 32) cA (z 1) (lw 1) (hg 1) (O 1) (U 1) (mv 1) (M 1) ++ kW (c 30) (c 33) cA (z 2) (lw 2) (hg 2) (O 2) (U 2) (mv 2) (M 2)) sz) (lyW c cA cC sl l1 (cStm l2 (M 0) (cUp z lw hg U 0) (i + 1)) l3 l4 l5 C l7 l8 l9 (upd l10 ce (nI (cCnt z 3))) l11 l12 ++ kW (c 28) (c 31) cA (z 0) (lw 0) (hg 0) (O 0) (cUp z lw hg U 0) (mv 0) (M 0) ++ kW (c 29) (c 32) cA (z 1) (lw 1) (hg 1) (O 1) (U 1) (mv 1) (M 1) ++ kW (c 30) (c 33) cA (z 2) (lw 2) (hg 2) (O 2) (U 2) (mv 2) (M 2)) := hD
                        refine lv_iinc (v := nI (i + 1)) (lv' := [(5, .int (nI (i + 1))), (0, .ref (c 14)), (1, .int (nI ce)), (2, .int (bv (cLes z 1))), (3, .int (nI 0)), (4, .ref (c 28))]) hx hb dX1_turnStems_129 hl (k := 5) rfl (x_inc i) (by decide) rfl (fun ls hl => ?_)
                        refine lv_goto (tgt := 93) hx hb dX1_turnStems_132 (by decide) ?_
                        exact ihi (by omega) () _ _ _ trivial (lv_sub hl [1, 2, 3, 4, 5, 0] rfl) hP hD hS
                      · refine lv_iconst (v := 1) hx hb dX1_turnStems_123 (by decide) ?_
                        refine lv_goto (tgt := 128) hx hb dX1_turnStems_124 (by decide) ?_
                        refine x_tp (y := bv (cUp z lw hg U 0)) (bv_t c_120).symm ?_
                        refine x_iast hx hb hK hP hD hS 2 0 rfl rfl (k := (M 0 i)) (by omega) (by decide) dX1_turnStems_128 (fun H locs hP hD hS => ?_)
                        have hP : va_P D vwCl (lyW c cA cC sl l1 (upd (cStm l2 (M 0) (cUp z lw hg U 0) i) (M 0 i) (bv (cUp z lw hg U 0))) l3 l4 l5 C l7 l8 l9 (upd l10 ce (nI (cCnt z 3))) l11 l12 ++ kW (c 28) (c 31) cA (z 0) (lw 0) (hg 0) (O 0) (cUp z lw hg U 0) (mv 0) (M 0) ++ kW (c 29) (c 32) cA (z 1) (lw 1) (hg 1) (O 1) (U 1) (mv 1) (M 1) ++ kW (c 30) (c 33) cA (z 2) (lw 2) (hg 2) (O 2) (U 2) (mv 2) (M 2)) H := hP
                        have hD : va_D (va_A (lyW c cA cC sl l1 l2 l3 l4 l5 C l7 l8 l9 l10 l11 l12 ++ kW (c 28) (c 31) cA (z 0) (lw 0) (hg 0) (O 0) (U 0) (mv 0) (M 0) ++ kW (c 29) (c 32) cA (z 1) (lw 1) (hg 1) (O 1) (U 1) (mv 1) (M 1) ++ kW (c 30) (c 33) cA (z 2) (lw 2) (hg 2) (O 2) (U 2) (mv 2) (M 2)) sz) (lyW c cA cC sl l1 (upd (cStm l2 (M 0) (cUp z lw hg U 0) i) (M 0 i) (bv (cUp z lw hg U 0))) l3 l4 l5 C l7 l8 l9 (upd l10 ce (nI (cCnt z 3))) l11 l12 ++ kW (c 28) (c 31) cA (z 0) (lw 0) (hg 0) (O 0) (cUp z lw hg U 0) (mv 0) (M 0) ++ kW (c 29) (c 32) cA (z 1) (lw 1) (hg 1) (O 1) (U 1) (mv 1) (M 1) ++ kW (c 30) (c 33) cA (z 2) (lw 2) (hg 2) (O 2) (U 2) (mv 2) (M 2)) := hD
                        have hP : va_P D vwCl (lyW c cA cC sl l1 (cStm l2 (M 0) (cUp z lw hg U 0) (i + 1)) l3 l4 l5 C l7 l8 l9 (upd l10 ce (nI (cCnt z 3))) l11 l12 ++ kW (c 28) (c 31) cA (z 0) (lw 0) (hg 0) (O 0) (cUp z lw hg U 0) (mv 0) (M 0) ++ kW (c 29) (c 32) cA (z 1) (lw 1) (hg 1) (O 1) (U 1) (mv 1) (M 1) ++ kW (c 30) (c 33) cA (z 2) (lw 2) (hg 2) (O 2) (U 2) (mv 2) (M 2)) H := hP
                        have hD : va_D (va_A (lyW c cA cC sl l1 l2 l3 l4 l5 C l7 l8 l9 l10 l11 l12 ++ kW (c 28) (c 31) cA (z 0) (lw 0) (hg 0) (O 0) (U 0) (mv 0) (M 0) ++ kW (c 29) (c 32) cA (z 1) (lw 1) (hg 1) (O 1) (U 1) (mv 1) (M 1) ++ kW (c 30) (c 33) cA (z 2) (lw 2) (hg 2) (O 2) (U 2) (mv 2) (M 2)) sz) (lyW c cA cC sl l1 (cStm l2 (M 0) (cUp z lw hg U 0) (i + 1)) l3 l4 l5 C l7 l8 l9 (upd l10 ce (nI (cCnt z 3))) l11 l12 ++ kW (c 28) (c 31) cA (z 0) (lw 0) (hg 0) (O 0) (cUp z lw hg U 0) (mv 0) (M 0) ++ kW (c 29) (c 32) cA (z 1) (lw 1) (hg 1) (O 1) (U 1) (mv 1) (M 1) ++ kW (c 30) (c 33) cA (z 2) (lw 2) (hg 2) (O 2) (U 2) (mv 2) (M 2)) := hD
                        refine lv_iinc (v := nI (i + 1)) (lv' := [(5, .int (nI (i + 1))), (0, .ref (c 14)), (1, .int (nI ce)), (2, .int (bv (cLes z 1))), (3, .int (nI 0)), (4, .ref (c 28))]) hx hb dX1_turnStems_129 hl (k := 5) rfl (x_inc i) (by decide) rfl (fun ls hl => ?_)
                        refine lv_goto (tgt := 93) hx hb dX1_turnStems_132 (by decide) ?_
                        exact ihi (by omega) () _ _ _ trivial (lv_sub hl [1, 2, 3, 4, 5, 0] rfl) hP hD hS
                  refine lv_aload hx hb dX1_turnStems_56 (lv_at hl 0 rfl) ?_
                  refine va_get (D := D) (ci := 0) (v := .int (nI (z 0))) (C := RX0) (T := TX0) (N := 7) hx hb hts hiX00 hown hK.1 hP 14 rfl rfl 1 (by decide) f2 (fun _ h9 => h9) rfl dX1_turnStems_58 ?_
                  refine x_cle (tgt := 90) hx hb dX1_turnStems_61 (by decide) (fun c_61 => ?_) (fun c_61 => ?_)
                  · have c_61 : ¬ 0 < z 0 := fun h => c_61 ((nI_pos0 (by have := hz 0; omega)).mpr h)
                    have hl := lv_cast (l' := [(4, .ref (c 28)), (3, .int (nI 0)), (2, .int (bv (cLes z 1))), (0, .ref (c 14)), (1, .int (nI ce))]) hl (by rw [show bv (cLes z 0) = bv (cLes z 1) from (bv_iff (cLes_s c_61))])
                    have hwe : lyW c cA cC sl l1 l2 l3 l4 l5 C l7 l8 l9 (upd l10 ce (nI (cCnt z 3))) l11 l12 ++ kW (c 28) (c 31) cA (z 0) (lw 0) (hg 0) (O 0) (U 0) (mv 0) (M 0) ++ kW (c 29) (c 32) cA (z 1) (lw 1) (hg 1) (O 1) (U 1) (mv 1) (M 1) ++ kW (c 30) (c 33) cA (z 2) (lw 2) (hg 2) (O 2) (U 2) (mv 2) (M 2) = lyW c cA cC sl l1 l2 l3 l4 l5 C l7 l8 l9 (upd l10 ce (nI (cCnt z 3))) l11 l12 ++ kW (c 28) (c 31) cA (z 0) (lw 0) (hg 0) (O 0) (cUp z lw hg U 0) (mv 0) (M 0) ++ kW (c 29) (c 32) cA (z 1) (lw 1) (hg 1) (O 1) (U 1) (mv 1) (M 1) ++ kW (c 30) (c 33) cA (z 2) (lw 2) (hg 2) (O 2) (U 2) (mv 2) (M 2) := (by rw [show cUp z lw hg U 0 = U 0 from if_neg c_61])
                    rw [hwe] at hP hD
                    exact j_90 _ _ _ (lv_sub hl [0, 1, 2, 3, 4] rfl) hP hD hS
                  · have c_61 : 0 < z 0 := (nI_pos0 (by have := hz 0; omega)).mp c_61
                    refine lv_aload hx hb dX1_turnStems_64 (lv_at hl 0 rfl) ?_
                    refine lv_aload_n hx hb dX1_turnStems_66 rfl (lv_at hl 3 rfl) ?_
                    refine va_get (D := D) (ci := 1) (v := .ref (c 24)) (C := RX1) (T := TX1) (N := 15) hx hb hts hiX10 hown hK.1 hP 0 rfl rfl 10 (by decide) f0 (fun _ h9 => h9) rfl dX1_turnStems_67 ?_
                    refine lv_iload_n hx hb dX1_turnStems_70 rfl (lv_at hl 4 rfl) ?_
                    refine x_iald hx hb hK hP 10 0 rfl rfl (k := ce) (by omega) (by decide) dX1_turnStems_71 ?_
                    refine x_tp (y := nI (cCnt z 3)) pk_us ?_
                    have hcn := cCnt_le z 3
                    refine lv_iconst (v := 1) hx hb dX1_turnStems_72 (by decide) ?_
                    refine x_tp (y := nI 1) (show (1 : Int32) = nI 1 from rfl) ?_
                    refine x_nle (tgt := 80) hx hb dX1_turnStems_73 (by decide) (by omega) (by omega) (fun c_73 => ?_) (fun c_73 => ?_)
                    · refine lv_aload hx hb dX1_turnStems_80 (lv_at hl 0 rfl) ?_
                      refine rcVi (As := []) (rest := [.ref (c 28)]) ⟨hx, hb, hml, hown, hts⟩ (k0_liesLow l0 D cA (c 28) (c 31) (z 0) (lw 0) (hg 0) (O 0) (U 0) (mv 0) (M 0)) (cwV 0 hts gX1_turnStems_X0_liesLow rfl rfl rfl (by decide +kernel) ⟨Nat.le_of_ble_eq_true rfl, Nat.le_of_ble_eq_true rfl⟩) (va_recv hK.1 hP (ci := 0) (q0 := 14) rfl rfl) (hP.sub [14, 15] rfl) hK1 rfl hl.1 rfl (Nat.le_of_ble_eq_true rfl) dX1_turnStems_82 ⟨Nat.zero_le _, Nat.zero_le _⟩ ?_
                      refine x_tp (y := bv (cUp z lw hg U 0)) (by rw [cUp, if_pos c_61, if_neg (by omega)]) ?_
                      refine va_put (D := D) (ci := 0) (v := .int (bv (cUp z lw hg U 0))) (ty := .boolean) (C := RX0) (T := TX0) (N := 7) hx hb hts hiX00 tyX0 tyX0_ok nmX0 hown hK.1 hP hD hS 14 rfl rfl 5 (by decide) f5 (fun _ h9 => h9) rfl (by decide +kernel) bv_nar bv_fits (Nat.le_of_ble_eq_true rfl) dX1_turnStems_85 (fun H locs hP hD hS => ?_)
                      have hP : va_P D vwCl (lyW c cA cC sl l1 l2 l3 l4 l5 C l7 l8 l9 (upd l10 ce (nI (cCnt z 3))) l11 l12 ++ kW (c 28) (c 31) cA (z 0) (lw 0) (hg 0) (O 0) (cUp z lw hg U 0) (mv 0) (M 0) ++ kW (c 29) (c 32) cA (z 1) (lw 1) (hg 1) (O 1) (U 1) (mv 1) (M 1) ++ kW (c 30) (c 33) cA (z 2) (lw 2) (hg 2) (O 2) (U 2) (mv 2) (M 2)) H := hP
                      have hD : va_D (va_A (lyW c cA cC sl l1 l2 l3 l4 l5 C l7 l8 l9 l10 l11 l12 ++ kW (c 28) (c 31) cA (z 0) (lw 0) (hg 0) (O 0) (U 0) (mv 0) (M 0) ++ kW (c 29) (c 32) cA (z 1) (lw 1) (hg 1) (O 1) (U 1) (mv 1) (M 1) ++ kW (c 30) (c 33) cA (z 2) (lw 2) (hg 2) (O 2) (U 2) (mv 2) (M 2)) sz) (lyW c cA cC sl l1 l2 l3 l4 l5 C l7 l8 l9 (upd l10 ce (nI (cCnt z 3))) l11 l12 ++ kW (c 28) (c 31) cA (z 0) (lw 0) (hg 0) (O 0) (cUp z lw hg U 0) (mv 0) (M 0) ++ kW (c 29) (c 32) cA (z 1) (lw 1) (hg 1) (O 1) (U 1) (mv 1) (M 1) ++ kW (c 30) (c 33) cA (z 2) (lw 2) (hg 2) (O 2) (U 2) (mv 2) (M 2)) := hD
                      refine lv_iconst (v := 0) hx hb dX1_turnStems_88 (by decide) ?_
                      refine x_tp (y := bv (cLes z 1)) (bv_f (fun h => absurd (h 0 (by decide)) (by omega))).symm ?_
                      refine lv_istore_n (lv' := [(2, .int (bv (cLes z 1))), (4, .ref (c 28)), (3, .int (nI 0)), (0, .ref (c 14)), (1, .int (nI ce))]) hx hb dX1_turnStems_89 rfl hl (by decide) rfl (fun ls hl => ?_)
                      exact j_90 _ _ _ (lv_sub hl [1, 2, 0, 3, 4] rfl) hP hD hS
                    · refine lv_iload_n hx hb dX1_turnStems_76 rfl (lv_at hl 2 rfl) ?_
                      refine lv_goto (tgt := 85) hx hb dX1_turnStems_77 (by decide) ?_
                      refine x_tp (y := bv (cUp z lw hg U 0)) (by rw [cUp, if_pos c_61, if_pos c_73]) ?_
                      refine va_put (D := D) (ci := 0) (v := .int (bv (cUp z lw hg U 0))) (ty := .boolean) (C := RX0) (T := TX0) (N := 7) hx hb hts hiX00 tyX0 tyX0_ok nmX0 hown hK.1 hP hD hS 14 rfl rfl 5 (by decide) f5 (fun _ h9 => h9) rfl (by decide +kernel) bv_nar bv_fits (Nat.le_of_ble_eq_true rfl) dX1_turnStems_85 (fun H locs hP hD hS => ?_)
                      have hP : va_P D vwCl (lyW c cA cC sl l1 l2 l3 l4 l5 C l7 l8 l9 (upd l10 ce (nI (cCnt z 3))) l11 l12 ++ kW (c 28) (c 31) cA (z 0) (lw 0) (hg 0) (O 0) (cUp z lw hg U 0) (mv 0) (M 0) ++ kW (c 29) (c 32) cA (z 1) (lw 1) (hg 1) (O 1) (U 1) (mv 1) (M 1) ++ kW (c 30) (c 33) cA (z 2) (lw 2) (hg 2) (O 2) (U 2) (mv 2) (M 2)) H := hP
                      have hD : va_D (va_A (lyW c cA cC sl l1 l2 l3 l4 l5 C l7 l8 l9 l10 l11 l12 ++ kW (c 28) (c 31) cA (z 0) (lw 0) (hg 0) (O 0) (U 0) (mv 0) (M 0) ++ kW (c 29) (c 32) cA (z 1) (lw 1) (hg 1) (O 1) (U 1) (mv 1) (M 1) ++ kW (c 30) (c 33) cA (z 2) (lw 2) (hg 2) (O 2) (U 2) (mv 2) (M 2)) sz) (lyW c cA cC sl l1 l2 l3 l4 l5 C l7 l8 l9 (upd l10 ce (nI (cCnt z 3))) l11 l12 ++ kW (c 28) (c 31) cA (z 0) (lw 0) (hg 0) (O 0) (cUp z lw hg U 0) (mv 0) (M 0) ++ kW (c 29) (c 32) cA (z 1) (lw 1) (hg 1) (O 1) (U 1) (mv 1) (M 1) ++ kW (c 30) (c 33) cA (z 2) (lw 2) (hg 2) (O 2) (U 2) (mv 2) (M 2)) := hD
                      refine lv_iconst (v := 0) hx hb dX1_turnStems_88 (by decide) ?_
                      refine x_tp (y := bv (cLes z 1)) (bv_f (fun h => absurd (h 0 (by decide)) (by omega))).symm ?_
                      refine lv_istore_n (lv' := [(2, .int (bv (cLes z 1))), (4, .ref (c 28)), (3, .int (nI 0)), (0, .ref (c 14)), (1, .int (nI ce))]) hx hb dX1_turnStems_89 rfl hl (by decide) rfl (fun ls hl => ?_)
                      exact j_90 _ _ _ (lv_sub hl [1, 2, 0, 3, 4] rfl) hP hD hS
              · exact absurd c_4 (by decide)
            refine va_get (D := D) (ci := 1) (v := .ref (c 27)) (C := RX1) (T := TX1) (N := 15) hx hb hts hiX10 hown hK.1 hP 0 rfl rfl 13 (by decide) f1 (fun _ h9 => h9) rfl dX1_turnStems_15 ?_
            refine lv_iload_n hx hb dX1_turnStems_18 rfl (lv_at hl 0 rfl) ?_
            refine x_aald hx hb hK hP 13 1 rfl rfl (k := 2) (by decide) (by decide) dX1_turnStems_19 ?_
            refine x_tpr (y := c 30) rfl ?_
            refine va_get (D := D) (ci := 0) (v := .int (nI (z 2))) (C := RX0) (T := TX0) (N := 7) hx hb hts hiX00 hown hK.1 hP 18 rfl rfl 1 (by decide) f2 (fun _ h9 => h9) rfl dX1_turnStems_20 ?_
            refine x_cle (tgt := 30) hx hb dX1_turnStems_23 (by decide) (fun c_23 => ?_) (fun c_23 => ?_)
            · have c_23 : ¬ 0 < z 2 := fun h => c_23 ((nI_pos0 (by have := hz 2; omega)).mpr h)
              refine lv_iconst (v := 0) hx hb dX1_turnStems_30 (by decide) ?_
              refine lv_iadd hx hb dX1_turnStems_31 ?_
              refine x_tp (y := nI (cCnt z 3)) (by rw [cCnt_f c_23]; exact Int32.add_zero _) ?_
              exact j_32 _ (lv_sub hl [0, 1, 2] rfl)
            · have c_23 : 0 < z 2 := (nI_pos0 (by have := hz 2; omega)).mp c_23
              refine lv_iconst (v := 1) hx hb dX1_turnStems_26 (by decide) ?_
              refine lv_goto (tgt := 31) hx hb dX1_turnStems_27 (by decide) ?_
              refine lv_iadd hx hb dX1_turnStems_31 ?_
              refine x_tp (y := nI (cCnt z 3)) (by rw [cCnt_t c_23]; exact nI_1 _) ?_
              exact j_32 _ (lv_sub hl [0, 1, 2] rfl)
        refine va_get (D := D) (ci := 1) (v := .ref (c 27)) (C := RX1) (T := TX1) (N := 15) hx hb hts hiX10 hown hK.1 hP 0 rfl rfl 13 (by decide) f1 (fun _ h9 => h9) rfl dX1_turnStems_15 ?_
        refine lv_iload_n hx hb dX1_turnStems_18 rfl (lv_at hl 0 rfl) ?_
        refine x_aald hx hb hK hP 13 1 rfl rfl (k := 1) (by decide) (by decide) dX1_turnStems_19 ?_
        refine x_tpr (y := c 29) rfl ?_
        refine va_get (D := D) (ci := 0) (v := .int (nI (z 1))) (C := RX0) (T := TX0) (N := 7) hx hb hts hiX00 hown hK.1 hP 16 rfl rfl 1 (by decide) f2 (fun _ h9 => h9) rfl dX1_turnStems_20 ?_
        refine x_cle (tgt := 30) hx hb dX1_turnStems_23 (by decide) (fun c_23 => ?_) (fun c_23 => ?_)
        · have c_23 : ¬ 0 < z 1 := fun h => c_23 ((nI_pos0 (by have := hz 1; omega)).mpr h)
          refine lv_iconst (v := 0) hx hb dX1_turnStems_30 (by decide) ?_
          refine lv_iadd hx hb dX1_turnStems_31 ?_
          refine x_tp (y := nI (cCnt z 2)) (by rw [cCnt_f c_23]; exact Int32.add_zero _) ?_
          exact j_32 _ (lv_sub hl [0, 1, 2] rfl)
        · have c_23 : 0 < z 1 := (nI_pos0 (by have := hz 1; omega)).mp c_23
          refine lv_iconst (v := 1) hx hb dX1_turnStems_26 (by decide) ?_
          refine lv_goto (tgt := 31) hx hb dX1_turnStems_27 (by decide) ?_
          refine lv_iadd hx hb dX1_turnStems_31 ?_
          refine x_tp (y := nI (cCnt z 2)) (by rw [cCnt_t c_23]; exact nI_1 _) ?_
          exact j_32 _ (lv_sub hl [0, 1, 2] rfl)
    refine va_get (D := D) (ci := 1) (v := .ref (c 27)) (C := RX1) (T := TX1) (N := 15) hx hb hts hiX10 hown hK.1 hP 0 rfl rfl 13 (by decide) f1 (fun _ h9 => h9) rfl dX1_turnStems_15 ?_
    refine lv_iload_n hx hb dX1_turnStems_18 rfl (lv_at hl 0 rfl) ?_
    refine x_aald hx hb hK hP 13 1 rfl rfl (k := 0) (by decide) (by decide) dX1_turnStems_19 ?_
    refine x_tpr (y := c 28) rfl ?_
    refine va_get (D := D) (ci := 0) (v := .int (nI (z 0))) (C := RX0) (T := TX0) (N := 7) hx hb hts hiX00 hown hK.1 hP 14 rfl rfl 1 (by decide) f2 (fun _ h9 => h9) rfl dX1_turnStems_20 ?_
    refine x_cle (tgt := 30) hx hb dX1_turnStems_23 (by decide) (fun c_23 => ?_) (fun c_23 => ?_)
    · have c_23 : ¬ 0 < z 0 := fun h => c_23 ((nI_pos0 (by have := hz 0; omega)).mpr h)
      refine lv_iconst (v := 0) hx hb dX1_turnStems_30 (by decide) ?_
      refine lv_iadd hx hb dX1_turnStems_31 ?_
      refine x_tp (y := nI (cCnt z 1)) (by rw [cCnt_f c_23]; exact Int32.add_zero _) ?_
      exact j_32 _ (lv_sub hl [0, 1, 2] rfl)
    · have c_23 : 0 < z 0 := (nI_pos0 (by have := hz 0; omega)).mp c_23
      refine lv_iconst (v := 1) hx hb dX1_turnStems_26 (by decide) ?_
      refine lv_goto (tgt := 31) hx hb dX1_turnStems_27 (by decide) ?_
      refine lv_iadd hx hb dX1_turnStems_31 ?_
      refine x_tp (y := nI (cCnt z 1)) (by rw [cCnt_t c_23]; exact nI_1 _) ?_
      exact j_32 _ (lv_sub hl [0, 1, 2] rfl)

set_option maxHeartbeats 4000000 in
set_option maxRecDepth 100000 in
theorem k1_moveChords (l0 : Launch) (D : va_G) (c : Nat → Nat) (cA cC : ClassId) (sl : Prop) (l1 l2 l3 l4 l5 : Nat → Int32) (C : Nat → Nat) (l7 l8 l9 l10 l11 l12 : Nat → Int32) (z : Nat → Nat) (lw hg : Nat → Int32) (O U : Nat → Prop) (M : Nat → Nat → Nat) (n : Nat) (a : Nat → Nat → Int32) (d1 d2 sz : Nat) (hz : ∀ v, z v ≤ 60) (hM : ∀ v i, i < z v → M v i < 60) (hd1 : d1 < 16) (hd2 : d2 < 16) (hn1 : ¬ (cOver l1 l2 l3 (a 12) (a 11) (z 1) d1 (M 1) (z 0) 0 (M 0))) (ho1 : ∀ i, i < d1 → cOver l1 l2 l3 (a 12) (a 11) (z 1) i (M 1) (z 0) 0 (M 0)) (hn2 : ¬ (cOver l1 l2 l3 (a 12) (a 11) (z 2) d2 (M 2) (z 0) 0 (M 0) ∨ cOver l1 l2 l3 (a 12) (a 11) (z 2) d2 (M 2) (z 1) d1 (M 1))) (ho2 : ∀ i, i < d2 → cOver l1 l2 l3 (a 12) (a 11) (z 2) i (M 2) (z 0) 0 (M 0) ∨ cOver l1 l2 l3 (a 12) (a 11) (z 2) i (M 2) (z 1) d1 (M 1)) : Met l0 yX1_moveChords wsX1_moveChords ({ frames := 3, cells := 0, slots := 0, locals := 73 }) (wPc D (lyW c cA cC sl l1 l2 l3 l4 l5 C l7 l8 l9 l10 l11 l12 ++ kW (c 28) (c 31) cA (z 0) (lw 0) (hg 0) (O 0) (U 0) 0 (M 0) ++ kW (c 29) (c 32) cA (z 1) (lw 1) (hg 1) (O 1) (U 1) 0 (M 1) ++ kW (c 30) (c 33) cA (z 2) (lw 2) (hg 2) (O 2) (U 2) 0 (M 2) ++ noW c cA n a) [(cA, .int), (cC, .object "StaffHeads$Chord")] sz [.ref (c 14), .ref (c 7)]) (va_Qv (fun _ : Unit => True) (wB D (lyW c cA cC sl l1 l2 l3 l4 l5 C l7 l8 l9 l10 l11 l12 ++ kW (c 28) (c 31) cA (z 0) (lw 0) (hg 0) (O 0) (U 0) 0 (M 0) ++ kW (c 29) (c 32) cA (z 1) (lw 1) (hg 1) (O 1) (U 1) 0 (M 1) ++ kW (c 30) (c 33) cA (z 2) (lw 2) (hg 2) (O 2) (U 2) 0 (M 2) ++ noW c cA n a) sz (fun _ => lyW c cA cC sl l1 l2 l3 l4 l5 C l7 l8 l9 l10 l11 l12 ++ kW (c 28) (c 31) cA (z 0) (lw 0) (hg 0) (O 0) (U 0) 0 (M 0) ++ kW (c 29) (c 32) cA (z 1) (lw 1) (hg 1) (O 1) (U 1) d1 (M 1) ++ kW (c 30) (c 33) cA (z 2) (lw 2) (hg 2) (O 2) (U 2) d2 (M 2) ++ noW c cA n a)) (va_A (lyW c cA cC sl l1 l2 l3 l4 l5 C l7 l8 l9 l10 l11 l12 ++ kW (c 28) (c 31) cA (z 0) (lw 0) (hg 0) (O 0) (U 0) 0 (M 0) ++ kW (c 29) (c 32) cA (z 1) (lw 1) (hg 1) (O 1) (U 1) 0 (M 1) ++ kW (c 30) (c 33) cA (z 2) (lw 2) (hg 2) (O 2) (U 2) 0 (M 2) ++ noW c cA n a) sz)) 0 0 (va_A (lyW c cA cC sl l1 l2 l3 l4 l5 C l7 l8 l9 l10 l11 l12 ++ kW (c 28) (c 31) cA (z 0) (lw 0) (hg 0) (O 0) (U 0) 0 (M 0) ++ kW (c 29) (c 32) cA (z 1) (lw 1) (hg 1) (O 1) (U 1) 0 (M 1) ++ kW (c 30) (c 33) cA (z 2) (lw 2) (hg 2) (O 2) (U 2) 0 (M 2) ++ noW c cA n a) sz) := by
  refine w_head (C := RX1) (cc := cX1_moveChords) (maxL := 4) (ret := none) [(0, .ref (c 14)), (1, .ref (c 7))] (by decide) rfl rfl (Nat.le_of_ble_eq_true rfl) rfl ?_
  intro p e s mi below meth cd hx hb hr hlk hml hown hin hts hP hD hS hA hK ls hl
  have hiX00 : ∀ w ∈ wsX00, w ∈ wsX1_moveChords := fun w h => List.mem_cons_of_mem _ (List.mem_append_left _ (List.mem_append_right _ h))
  have hiX10 : ∀ w ∈ wsX10, w ∈ wsX1_moveChords := fun w h => List.mem_cons_of_mem _ (List.mem_append_left _ (List.mem_append_left _ (List.mem_append_right _ h)))
  have f0 := hts (.fieldLink RX1 55 "StaffHeads$Layout" "chords" "[LStaffHeads$Chord;") (List.mem_of_getElem? (i := 1) rfl)
  have f1 := hts (.fieldLink RX1 165 "StaffHeads$Chord" "moved" "I") (List.mem_of_getElem? (i := 2) rfl)
  have hK1 : kK D [(cA, .int)] s := ⟨hK.1.sub [0] rfl, hK.2⟩
  refine lv_iconst (v := 1) hx hb dX1_moveChords_0 (by decide) ?_
  refine x_tp (y := nI 1) (show (1 : Int32) = nI 1 from rfl) ?_
  refine lv_istore_n (lv' := [(2, .int (nI 1)), (0, .ref (c 14)), (1, .ref (c 7))]) hx hb dX1_moveChords_1 rfl hl (by decide) rfl (fun ls hl => ?_)
  refine lv_iload_n hx hb dX1_moveChords_2 rfl (lv_at hl 0 rfl) ?_
  refine lv_iconst (v := 3) hx hb dX1_moveChords_3 (by decide) ?_
  refine x_tp (y := nI 3) (show (3 : Int32) = nI 3 from rfl) ?_
  refine x_nge (tgt := 51) hx hb dX1_moveChords_4 (by decide) (by omega) (by omega) (fun c_4 => ?_) (fun c_4 => ?_)
  · exact absurd c_4 (by decide)
  · refine lv_aload_n hx hb dX1_moveChords_7 rfl (lv_at hl 1 rfl) ?_
    refine va_get (D := D) (ci := 1) (v := .ref (c 27)) (C := RX1) (T := TX1) (N := 15) hx hb hts hiX10 hown hK.1 hP 0 rfl rfl 13 (by decide) f0 (fun _ h9 => h9) rfl dX1_moveChords_8 ?_
    refine lv_iload_n hx hb dX1_moveChords_11 rfl (lv_at hl 0 rfl) ?_
    refine x_aald hx hb hK hP 13 1 rfl rfl (k := 1) (by decide) (by decide) dX1_moveChords_12 ?_
    refine x_tpr (y := c 29) rfl ?_
    refine lv_astore_n (lv' := [(3, .ref (c 29)), (2, .int (nI 1)), (0, .ref (c 14)), (1, .ref (c 7))]) hx hb dX1_moveChords_13 rfl hl (by decide) rfl (fun ls hl => ?_)
    refine lpW (G := fun ls H locs => W p _ e _ s mi _ below meth cd H locs _ _ _ (F0 mi 14 ls [])) 4 d1 (fun i (_ : Unit) => [(0, .ref (c 14)), (1, .ref (c 7)), (2, .int (nI 1)), (3, .ref (c 29))]) (fun i (_ : Unit) => lyW c cA cC sl l1 l2 l3 l4 l5 C l7 l8 l9 l10 l11 l12 ++ kW (c 28) (c 31) cA (z 0) (lw 0) (hg 0) (O 0) (U 0) 0 (M 0) ++ kW (c 29) (c 32) cA (z 1) (lw 1) (hg 1) (O 1) (U 1) i (M 1) ++ kW (c 30) (c 33) cA (z 2) (lw 2) (hg 2) (O 2) (U 2) 0 (M 2) ++ noW c cA n a) (fun _ _ => True) ?_ 0 () (Nat.zero_le _) trivial (lv_sub hl [2, 3, 1, 0] rfl) hP hD hS
    clear hl hP hD hS
    intro i gu hi hiI ls H locs hl hP hD hS ihi
    refine lv_aload_n hx hb dX1_moveChords_14 rfl (lv_at hl 3 rfl) ?_
    refine va_get (D := D) (ci := 0) (v := .int (nI i)) (C := RX0) (T := TX0) (N := 7) hx hb hts hiX00 hown hK.1 hP 16 rfl rfl 6 (by decide) f1 (fun _ h9 => h9) rfl dX1_moveChords_15 ?_
    refine lv_bipush (v := 16) hx hb dX1_moveChords_18 (by decide) ?_
    refine x_tp (y := nI 16) (show (16 : Int32) = nI 16 from rfl) ?_
    refine x_nge (tgt := 45) hx hb dX1_moveChords_20 (by decide) (by omega) (by omega) (fun c_20 => ?_) (fun c_20 => ?_)
    · exact absurd c_20 (by omega)
    · refine lv_aload_n hx hb dX1_moveChords_23 rfl (lv_at hl 0 rfl) ?_
      refine lv_aload_n hx hb dX1_moveChords_24 rfl (lv_at hl 1 rfl) ?_
      refine lv_iload_n hx hb dX1_moveChords_25 rfl (lv_at hl 2 rfl) ?_
      refine rcVi (As := [.ref (c 7), .int (nI 1)]) (rest := []) ⟨hx, hb, hml, hown, hts⟩ (k1_lol1 l0 D c cA cC sl l1 l2 l3 l4 l5 C l7 l8 l9 l10 l11 l12 z lw hg O U (fun v => if v = 1 then i else if v = 2 then 0 else 0) M n a hz hM) (cwV 2 hts gX1_moveChords_X1_liesOverLesser rfl rfl rfl (by decide +kernel) ⟨Nat.le_of_ble_eq_true rfl, Nat.le_of_ble_eq_true rfl⟩) (va_recv hK.1 hP (ci := 1) (q0 := 0) rfl rfl) hP hK rfl hl.1 rfl (Nat.le_of_ble_eq_true rfl) dX1_moveChords_26 ⟨Nat.zero_le _, Nat.zero_le _⟩ ?_
      refine x_ifeq (tgt := 45) hx hb dX1_moveChords_29 (by decide) (fun (c_29 : ¬ (cOver l1 l2 l3 (a 12) (a 11) (z 1) i (M 1) (z 0) 0 (M 0))) => ?_) (fun (c_29 : cOver l1 l2 l3 (a 12) (a 11) (z 1) i (M 1) (z 0) 0 (M 0)) => ?_)
      · have hid : d1 = i := by
          rcases Nat.lt_or_ge i d1 with q | q
          · exact absurd (ho1 i q) c_29
          · omega
        subst hid
        refine lv_iinc (v := nI 2) (lv' := [(2, .int (nI 2)), (0, .ref (c 14)), (1, .ref (c 7)), (3, .ref (c 29))]) hx hb dX1_moveChords_45 hl (k := 2) rfl (x_inc 1) (by decide) rfl (fun ls hl => ?_)
        refine lv_goto (tgt := 2) hx hb dX1_moveChords_48 (by decide) ?_
        refine lv_iload_n hx hb dX1_moveChords_2 rfl (lv_at hl 0 rfl) ?_
        refine lv_iconst (v := 3) hx hb dX1_moveChords_3 (by decide) ?_
        refine x_tp (y := nI 3) (show (3 : Int32) = nI 3 from rfl) ?_
        refine x_nge (tgt := 51) hx hb dX1_moveChords_4 (by decide) (by omega) (by omega) (fun c_4 => ?_) (fun c_4 => ?_)
        · exact absurd c_4 (by decide)
        · refine lv_aload_n hx hb dX1_moveChords_7 rfl (lv_at hl 1 rfl) ?_
          refine va_get (D := D) (ci := 1) (v := .ref (c 27)) (C := RX1) (T := TX1) (N := 15) hx hb hts hiX10 hown hK.1 hP 0 rfl rfl 13 (by decide) f0 (fun _ h9 => h9) rfl dX1_moveChords_8 ?_
          refine lv_iload_n hx hb dX1_moveChords_11 rfl (lv_at hl 0 rfl) ?_
          refine x_aald hx hb hK hP 13 1 rfl rfl (k := 2) (by decide) (by decide) dX1_moveChords_12 ?_
          refine x_tpr (y := c 30) rfl ?_
          refine lv_astore_n (lv' := [(3, .ref (c 30)), (2, .int (nI 2)), (0, .ref (c 14)), (1, .ref (c 7))]) hx hb dX1_moveChords_13 rfl hl (by decide) rfl (fun ls hl => ?_)
          refine lpW (G := fun ls H locs => W p _ e _ s mi _ below meth cd H locs _ _ _ (F0 mi 14 ls [])) 4 d2 (fun i (_ : Unit) => [(0, .ref (c 14)), (1, .ref (c 7)), (2, .int (nI 2)), (3, .ref (c 30))]) (fun i (_ : Unit) => lyW c cA cC sl l1 l2 l3 l4 l5 C l7 l8 l9 l10 l11 l12 ++ kW (c 28) (c 31) cA (z 0) (lw 0) (hg 0) (O 0) (U 0) 0 (M 0) ++ kW (c 29) (c 32) cA (z 1) (lw 1) (hg 1) (O 1) (U 1) d1 (M 1) ++ kW (c 30) (c 33) cA (z 2) (lw 2) (hg 2) (O 2) (U 2) i (M 2) ++ noW c cA n a) (fun _ _ => True) ?_ 0 () (Nat.zero_le _) trivial (lv_sub hl [2, 3, 1, 0] rfl) hP hD hS
          clear hl hP hD hS
          intro i gu hi hiI ls H locs hl hP hD hS ihi
          refine lv_aload_n hx hb dX1_moveChords_14 rfl (lv_at hl 3 rfl) ?_
          refine va_get (D := D) (ci := 0) (v := .int (nI i)) (C := RX0) (T := TX0) (N := 7) hx hb hts hiX00 hown hK.1 hP 18 rfl rfl 6 (by decide) f1 (fun _ h9 => h9) rfl dX1_moveChords_15 ?_
          refine lv_bipush (v := 16) hx hb dX1_moveChords_18 (by decide) ?_
          refine x_tp (y := nI 16) (show (16 : Int32) = nI 16 from rfl) ?_
          refine x_nge (tgt := 45) hx hb dX1_moveChords_20 (by decide) (by omega) (by omega) (fun c_20 => ?_) (fun c_20 => ?_)
          · exact absurd c_20 (by omega)
          · refine lv_aload_n hx hb dX1_moveChords_23 rfl (lv_at hl 0 rfl) ?_
            refine lv_aload_n hx hb dX1_moveChords_24 rfl (lv_at hl 1 rfl) ?_
            refine lv_iload_n hx hb dX1_moveChords_25 rfl (lv_at hl 2 rfl) ?_
            refine rcVi (As := [.ref (c 7), .int (nI 2)]) (rest := []) ⟨hx, hb, hml, hown, hts⟩ (k1_lol2 l0 D c cA cC sl l1 l2 l3 l4 l5 C l7 l8 l9 l10 l11 l12 z lw hg O U (fun v => if v = 1 then d1 else if v = 2 then i else 0) M n a hz hM) (cwV 2 hts gX1_moveChords_X1_liesOverLesser rfl rfl rfl (by decide +kernel) ⟨Nat.le_of_ble_eq_true rfl, Nat.le_of_ble_eq_true rfl⟩) (va_recv hK.1 hP (ci := 1) (q0 := 0) rfl rfl) hP hK rfl hl.1 rfl (Nat.le_of_ble_eq_true rfl) dX1_moveChords_26 ⟨Nat.zero_le _, Nat.zero_le _⟩ ?_
            refine x_ifeq (tgt := 45) hx hb dX1_moveChords_29 (by decide) (fun (c_29 : ¬ (cOver l1 l2 l3 (a 12) (a 11) (z 2) i (M 2) (z 0) 0 (M 0) ∨ cOver l1 l2 l3 (a 12) (a 11) (z 2) i (M 2) (z 1) d1 (M 1))) => ?_) (fun (c_29 : cOver l1 l2 l3 (a 12) (a 11) (z 2) i (M 2) (z 0) 0 (M 0) ∨ cOver l1 l2 l3 (a 12) (a 11) (z 2) i (M 2) (z 1) d1 (M 1)) => ?_)
            · have hid : d2 = i := by
                rcases Nat.lt_or_ge i d2 with q | q
                · exact absurd (ho2 i q) c_29
                · omega
              subst hid
              refine lv_iinc (v := nI 3) (lv' := [(2, .int (nI 3)), (0, .ref (c 14)), (1, .ref (c 7)), (3, .ref (c 30))]) hx hb dX1_moveChords_45 hl (k := 2) rfl (x_inc 2) (by decide) rfl (fun ls hl => ?_)
              refine lv_goto (tgt := 2) hx hb dX1_moveChords_48 (by decide) ?_
              refine lv_iload_n hx hb dX1_moveChords_2 rfl (lv_at hl 0 rfl) ?_
              refine lv_iconst (v := 3) hx hb dX1_moveChords_3 (by decide) ?_
              refine x_tp (y := nI 3) (show (3 : Int32) = nI 3 from rfl) ?_
              refine x_nge (tgt := 51) hx hb dX1_moveChords_4 (by decide) (by omega) (by omega) (fun c_4 => ?_) (fun c_4 => ?_)
              · exact w_vret () hx hb hr hlk hP hD hS (trivial) dX1_moveChords_51
              · exact absurd c_4 (by decide)
            · have hid : i < d2 := by
                rcases Nat.lt_or_ge i d2 with q | q
                · exact q
                · obtain rfl : d2 = i := by omega
                  exact absurd c_29 hn2
              refine lv_aload_n hx hb dX1_moveChords_32 rfl (lv_at hl 3 rfl) ?_
              refine lv_dup hx hb dX1_moveChords_33 rfl ?_
              refine va_get (D := D) (ci := 0) (v := .int (nI i)) (C := RX0) (T := TX0) (N := 7) hx hb hts hiX00 hown hK.1 hP 18 rfl rfl 6 (by decide) f1 (fun _ h9 => h9) rfl dX1_moveChords_34 ?_
              refine lv_iconst (v := 1) hx hb dX1_moveChords_37 (by decide) ?_
              refine lv_iadd hx hb dX1_moveChords_38 ?_
              refine x_tp (y := nI (i + 1)) (nI_1 i) ?_
              refine va_put (D := D) (ci := 0) (v := .int (nI (i + 1))) (ty := .int) (C := RX0) (T := TX0) (N := 7) hx hb hts hiX00 tyX0 tyX0_ok nmX0 hown hK.1 hP hD hS 18 rfl rfl 6 (by decide) f1 (fun _ h9 => h9) rfl (by decide +kernel) rfl rfl (Nat.le_of_ble_eq_true rfl) dX1_moveChords_39 (fun H locs hP hD hS => ?_)
              have hP : va_P D vwCl (lyW c cA cC sl l1 l2 l3 l4 l5 C l7 l8 l9 l10 l11 l12 ++ kW (c 28) (c 31) cA (z 0) (lw 0) (hg 0) (O 0) (U 0) 0 (M 0) ++ kW (c 29) (c 32) cA (z 1) (lw 1) (hg 1) (O 1) (U 1) d1 (M 1) ++ kW (c 30) (c 33) cA (z 2) (lw 2) (hg 2) (O 2) (U 2) (i + 1) (M 2) ++ noW c cA n a) H := hP
              have hD : va_D (va_A (lyW c cA cC sl l1 l2 l3 l4 l5 C l7 l8 l9 l10 l11 l12 ++ kW (c 28) (c 31) cA (z 0) (lw 0) (hg 0) (O 0) (U 0) 0 (M 0) ++ kW (c 29) (c 32) cA (z 1) (lw 1) (hg 1) (O 1) (U 1) 0 (M 1) ++ kW (c 30) (c 33) cA (z 2) (lw 2) (hg 2) (O 2) (U 2) 0 (M 2) ++ noW c cA n a) sz) (lyW c cA cC sl l1 l2 l3 l4 l5 C l7 l8 l9 l10 l11 l12 ++ kW (c 28) (c 31) cA (z 0) (lw 0) (hg 0) (O 0) (U 0) 0 (M 0) ++ kW (c 29) (c 32) cA (z 1) (lw 1) (hg 1) (O 1) (U 1) d1 (M 1) ++ kW (c 30) (c 33) cA (z 2) (lw 2) (hg 2) (O 2) (U 2) (i + 1) (M 2) ++ noW c cA n a) := hD
              refine lv_goto (tgt := 14) hx hb dX1_moveChords_42 (by decide) ?_
              exact ihi (by omega) () _ _ _ trivial (lv_sub hl [0, 1, 2, 3] rfl) hP hD hS
      · have hid : i < d1 := by
          rcases Nat.lt_or_ge i d1 with q | q
          · exact q
          · obtain rfl : d1 = i := by omega
            exact absurd c_29 hn1
        refine lv_aload_n hx hb dX1_moveChords_32 rfl (lv_at hl 3 rfl) ?_
        refine lv_dup hx hb dX1_moveChords_33 rfl ?_
        refine va_get (D := D) (ci := 0) (v := .int (nI i)) (C := RX0) (T := TX0) (N := 7) hx hb hts hiX00 hown hK.1 hP 16 rfl rfl 6 (by decide) f1 (fun _ h9 => h9) rfl dX1_moveChords_34 ?_
        refine lv_iconst (v := 1) hx hb dX1_moveChords_37 (by decide) ?_
        refine lv_iadd hx hb dX1_moveChords_38 ?_
        refine x_tp (y := nI (i + 1)) (nI_1 i) ?_
        refine va_put (D := D) (ci := 0) (v := .int (nI (i + 1))) (ty := .int) (C := RX0) (T := TX0) (N := 7) hx hb hts hiX00 tyX0 tyX0_ok nmX0 hown hK.1 hP hD hS 16 rfl rfl 6 (by decide) f1 (fun _ h9 => h9) rfl (by decide +kernel) rfl rfl (Nat.le_of_ble_eq_true rfl) dX1_moveChords_39 (fun H locs hP hD hS => ?_)
        have hP : va_P D vwCl (lyW c cA cC sl l1 l2 l3 l4 l5 C l7 l8 l9 l10 l11 l12 ++ kW (c 28) (c 31) cA (z 0) (lw 0) (hg 0) (O 0) (U 0) 0 (M 0) ++ kW (c 29) (c 32) cA (z 1) (lw 1) (hg 1) (O 1) (U 1) (i + 1) (M 1) ++ kW (c 30) (c 33) cA (z 2) (lw 2) (hg 2) (O 2) (U 2) 0 (M 2) ++ noW c cA n a) H := hP
        have hD : va_D (va_A (lyW c cA cC sl l1 l2 l3 l4 l5 C l7 l8 l9 l10 l11 l12 ++ kW (c 28) (c 31) cA (z 0) (lw 0) (hg 0) (O 0) (U 0) 0 (M 0) ++ kW (c 29) (c 32) cA (z 1) (lw 1) (hg 1) (O 1) (U 1) 0 (M 1) ++ kW (c 30) (c 33) cA (z 2) (lw 2) (hg 2) (O 2) (U 2) 0 (M 2) ++ noW c cA n a) sz) (lyW c cA cC sl l1 l2 l3 l4 l5 C l7 l8 l9 l10 l11 l12 ++ kW (c 28) (c 31) cA (z 0) (lw 0) (hg 0) (O 0) (U 0) 0 (M 0) ++ kW (c 29) (c 32) cA (z 1) (lw 1) (hg 1) (O 1) (U 1) (i + 1) (M 1) ++ kW (c 30) (c 33) cA (z 2) (lw 2) (hg 2) (O 2) (U 2) 0 (M 2) ++ noW c cA n a) := hD
        refine lv_goto (tgt := 14) hx hb dX1_moveChords_42 (by decide) ?_
        exact ihi (by omega) () _ _ _ trivial (lv_sub hl [0, 1, 2, 3] rfl) hP hD hS
