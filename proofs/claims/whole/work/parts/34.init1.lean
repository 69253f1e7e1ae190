theorem va_ProwQ {D : va_G} {ws : va_W} {H : Heap} (hP : va_P D vwCl ws H) (q0 : Nat) {b : Nat} {cA : ClassId} {N : Nat} {f g : Nat → Option Nat} (ha : ws[q0]? = some (b, .inl (cA, N, .inr (.inr (.inr (.inr f)))))) (h : ∀ j, j < N → f j = g j) : va_P D vwCl (ws.set q0 (b, .inl (cA, N, .inr (.inr (.inr (.inr g)))))) H := by
  intro k q hk
  rw [List.getElem?_set] at hk
  by_cases c : q0 = k
  · rw [if_pos c] at hk
    split at hk
    · cases hk
      have h1 := hP q0 _ ha
      show H[b]? = some (arrV cA N (fun j => va_rf (g j)))
      rw [← arrV_congr cA N (f := fun j => va_rf (f j)) (fun j hj => by rw [h j hj])]
      exact h1
    · cases hk
  · rw [if_neg c] at hk
    exact hP k q hk
/-- the layout's state as it is made -/
def zX : lS := (fun _ _ => 0, fun _ => 0, fun _ => 0, fun _ _ => 0, fun _ _ => False, fun _ => 0, fun _ _ => 0, 0, fun _ _ => 0)

set_option maxHeartbeats 4000000 in
set_option maxRecDepth 100000 in
theorem k0_init (l0 : Launch) (D : va_G) (cA cC : ClassId) (o0 sz : Nat) : Met l0 yX0_init wsX0_init ({ frames := 1, cells := 1, slots := 60, locals := 20 }) (wPc D ([(o0, .inr (0, [.null, .int 0, .int 0, .int 0, .int 0, .int 0, .int 0]))]) [(cA, .int)] sz [.ref o0]) (va_Qv (fun _ : Nat => True) (wB D ([(o0, .inr (0, [.null, .int 0, .int 0, .int 0, .int 0, .int 0, .int 0]))]) sz (fun q1 => kW o0 q1 cA 0 0 0 False False 0 (fun _ => 0))) (va_A ([(o0, .inr (0, [.null, .int 0, .int 0, .int 0, .int 0, .int 0, .int 0]))]) sz)) 1 60 (va_A ([(o0, .inr (0, [.null, .int 0, .int 0, .int 0, .int 0, .int 0, .int 0]))]) sz) := by
  refine w_head (C := RX0) (cc := cX0_init) (maxL := 1) (ret := none) [(0, .ref o0)] (by decide) rfl rfl (Nat.le_of_ble_eq_true rfl) rfl ?_
  intro p e s mi below meth cd hx hb hr hlk hml hown hin hts hP hD hS hA hK ls hl
  have hiX00 : ∀ w ∈ wsX00, w ∈ wsX0_init := fun w h => List.mem_cons_of_mem _ (List.mem_append_right _ h)
  have f0 := hts (.methodLink RX0 3 objectInit) (List.mem_of_getElem? (i := 1) rfl)
  have f1 := hts (.instanceMethod objectInit) (List.mem_of_getElem? (i := 2) rfl)
  have f2 := hts (.code objectInit ⟨#[0xb1]⟩ 1 none) (List.mem_of_getElem? (i := 3) rfl)
  have f3 := hts (.arrayClass .int) (List.mem_of_getElem? (i := 4) rfl)
  have f4 := hts (.fieldLink RX0 9 "StaffHeads$Chord" "heads" "[I") (List.mem_of_getElem? (i := 5) rfl)
  refine lv_aload_n hx hb dX0_init_0 rfl (lv_at hl 0 rfl) ?_
  refine W.objInit hx hb hown f0 f1 f2 rfl (by rw [hml]; exact hl.1) rfl dX0_init_1 (Nat.le_of_ble_eq_true rfl) (Nat.le_of_ble_eq_true rfl) ?_
  refine W.eq (g2 := F0 mi 4 ls []) rfl ?_
  refine lv_aload_n hx hb dX0_init_4 rfl (lv_at hl 0 rfl) ?_
  refine lv_bipush (v := 60) hx hb dX0_init_5 (by decide) ?_
  refine x_newa hx hb f3 hK hP hD hS hA 0 rfl 60 (by decide) (by decide) (by decide) (Nat.le_of_ble_eq_true rfl) (Nat.le_of_ble_eq_true rfl) dX0_init_7 (fun q0 H hP hD hS => ?_)
  have hP : va_P D vwCl ([(o0, .inr (0, [.null, .int 0, .int 0, .int 0, .int 0, .int 0, .int 0]))] ++ aW q0 cA 60 (fun _ => 0)) H := hP
  have hD : va_D (va_A ([(o0, .inr (0, [.null, .int 0, .int 0, .int 0, .int 0, .int 0, .int 0]))]) sz) ([(o0, .inr (0, [.null, .int 0, .int 0, .int 0, .int 0, .int 0, .int 0]))] ++ aW q0 cA 60 (fun _ => 0)) := hD
  refine va_putF (D := D) (ci := 0) (v := .ref q0) (ty := .array .int) (C := RX0) (T := TX0) (N := 7) hx hb hts hiX00 tyX0 tyX0_ok nmX0 hown hK.1 hP hD hS 0 rfl rfl 0 (by decide) f4 (fun _ h9 => h9) rfl hin rfl (by decide +kernel) rfl rfl (Nat.le_of_ble_eq_true rfl) dX0_init_9 (fun H locs hP hD hS => ?_)
  have hP : va_P D vwCl ([(o0, .inr (0, [.ref q0, .int 0, .int 0, .int 0, .int 0, .int 0, .int 0]))] ++ aW q0 cA 60 (fun _ => 0)) H := hP
  have hD : va_D (va_A ([(o0, .inr (0, [.null, .int 0, .int 0, .int 0, .int 0, .int 0, .int 0]))]) sz) ([(o0, .inr (0, [.ref q0, .int 0, .int 0, .int 0, .int 0, .int 0, .int 0]))] ++ aW q0 cA 60 (fun _ => 0)) := hD
  have e9 : kW o0 q0 cA 0 0 0 False False 0 (fun _ => 0) = [(o0, .inr (0, [.ref q0, .int 0, .int 0, .int 0, .int 0, .int 0, .int 0])), (q0, .inl (cA, 60, .inl (fun _ => 0)))] := by unfold kW; rw [bv_f (fun h => h)]; rfl
  have hP : va_P D vwCl (kW o0 q0 cA 0 0 0 False False 0 (fun _ => 0)) H := (by rw [e9]; exact hP.sub [0, 1] rfl)
  have hD : va_D (va_A ([(o0, .inr (0, [.null, .int 0, .int 0, .int 0, .int 0, .int 0, .int 0]))]) sz) (kW o0 q0 cA 0 0 0 False False 0 (fun _ => 0)) := (by rw [e9]; exact hD.sub [0, 1] (by decide) rfl)
  exact w_vret (S0 := Nat) (w1 := fun q1 => kW o0 q1 cA 0 0 0 False False 0 (fun _ => 0)) q0 hx hb hr hlk hP hD hS trivial dX0_init_12

set_option maxHeartbeats 4000000 in
set_option maxRecDepth 100000 in
theorem k3_init (l0 : Launch) (D : va_G) (cA cC : ClassId) (o0 sz : Nat) : Met l0 yX3_init wsX3_init ({ frames := 1, cells := 2, slots := 121, locals := 20 }) (wPc D ([(o0, .inr (3, [.null, .int 0, .null]))]) [(cA, .int)] sz [.ref o0]) (va_Qv (fun _ : Nat × Nat => True) (wB D ([(o0, .inr (3, [.null, .int 0, .null]))]) sz (fun q => gW o0 q.1 q.2 cA 0 (fun _ => 0) (fun _ => 0))) (va_A ([(o0, .inr (3, [.null, .int 0, .null]))]) sz)) 2 121 (va_A ([(o0, .inr (3, [.null, .int 0, .null]))]) sz) := by
  refine w_head (C := RX3) (cc := cX3_init) (maxL := 1) (ret := none) [(0, .ref o0)] (by decide) rfl rfl (Nat.le_of_ble_eq_true rfl) rfl ?_
  intro p e s mi below meth cd hx hb hr hlk hml hown hin hts hP hD hS hA hK ls hl
  have hiX30 : ∀ w ∈ wsX30, w ∈ wsX3_init := fun w h => List.mem_cons_of_mem _ (List.mem_append_right _ h)
  have f0 := hts (.methodLink RX3 3 objectInit) (List.mem_of_getElem? (i := 1) rfl)
  have f1 := hts (.instanceMethod objectInit) (List.mem_of_getElem? (i := 2) rfl)
  have f2 := hts (.code objectInit ⟨#[0xb1]⟩ 1 none) (List.mem_of_getElem? (i := 3) rfl)
  have f3 := hts (.arrayClass .int) (List.mem_of_getElem? (i := 4) rfl)
  have f4 := hts (.fieldLink RX3 9 "StaffHeads$Signs" "bearers" "[I") (List.mem_of_getElem? (i := 5) rfl)
  have f5 := hts (.fieldLink RX3 15 "StaffHeads$Signs" "takenInTurn" "[I") (List.mem_of_getElem? (i := 6) rfl)
  refine lv_aload_n hx hb dX3_init_0 rfl (lv_at hl 0 rfl) ?_
  refine W.objInit hx hb hown f0 f1 f2 rfl (by rw [hml]; exact hl.1) rfl dX3_init_1 (Nat.le_of_ble_eq_true rfl) (Nat.le_of_ble_eq_true rfl) ?_
  refine W.eq (g2 := F0 mi 4 ls []) rfl ?_
  refine lv_aload_n hx hb dX3_init_4 rfl (lv_at hl 0 rfl) ?_
  refine lv_bipush (v := 60) hx hb dX3_init_5 (by decide) ?_
  refine x_newa hx hb f3 hK hP hD hS hA 0 rfl 60 (by decide) (by decide) (by decide) (Nat.le_of_ble_eq_true rfl) (Nat.le_of_ble_eq_true rfl) dX3_init_7 (fun q0 H hP hD hS => ?_)
  have hP : va_P D vwCl ([(o0, .inr (3, [.null, .int 0, .null]))] ++ aW q0 cA 60 (fun _ => 0)) H := hP
  have hD : va_D (va_A ([(o0, .inr (3, [.null, .int 0, .null]))]) sz) ([(o0, .inr (3, [.null, .int 0, .null]))] ++ aW q0 cA 60 (fun _ => 0)) := hD
  refine va_putF (D := D) (ci := 3) (v := .ref q0) (ty := .array .int) (C := RX3) (T := TX3) (N := 3) hx hb hts hiX30 tyX3 tyX3_ok nmX3 hown hK.1 hP hD hS 0 rfl rfl 0 (by decide) f4 (fun _ h9 => h9) rfl hin rfl (by decide +kernel) rfl rfl (Nat.le_of_ble_eq_true rfl) dX3_init_9 (fun H locs hP hD hS => ?_)
  have hP : va_P D vwCl ([(o0, .inr (3, [.ref q0, .int 0, .null]))] ++ aW q0 cA 60 (fun _ => 0)) H := hP
  have hD : va_D (va_A ([(o0, .inr (3, [.null, .int 0, .null]))]) sz) ([(o0, .inr (3, [.ref q0, .int 0, .null]))] ++ aW q0 cA 60 (fun _ => 0)) := hD
  refine lv_aload_n hx hb dX3_init_12 rfl (lv_at hl 0 rfl) ?_
  refine lv_bipush (v := 61) hx hb dX3_init_13 (by decide) ?_
  refine x_newa hx hb f3 hK hP hD hS hA 0 rfl 61 (by decide) (by decide) (by decide) (Nat.le_of_ble_eq_true rfl) (Nat.le_of_ble_eq_true rfl) dX3_init_15 (fun q1 H hP hD hS => ?_)
  have hP : va_P D vwCl ([(o0, .inr (3, [.ref q0, .int 0, .null]))] ++ aW q0 cA 60 (fun _ => 0) ++ aW q1 cA 61 (fun _ => 0)) H := hP
  have hD : va_D (va_A ([(o0, .inr (3, [.null, .int 0, .null]))]) sz) ([(o0, .inr (3, [.ref q0, .int 0, .null]))] ++ aW q0 cA 60 (fun _ => 0) ++ aW q1 cA 61 (fun _ => 0)) := hD
  refine va_putF (D := D) (ci := 3) (v := .ref q1) (ty := .array .int) (C := RX3) (T := TX3) (N := 3) hx hb hts hiX30 tyX3 tyX3_ok nmX3 hown hK.1 hP hD hS 0 rfl rfl 2 (by decide) f5 (fun _ h9 => h9) rfl hin rfl (by decide +kernel) rfl rfl (Nat.le_of_ble_eq_true rfl) dX3_init_17 (fun H locs hP hD hS => ?_)
  have hP : va_P D vwCl ([(o0, .inr (3, [.ref q0, .int 0, .ref q1]))] ++ aW q0 cA 60 (fun _ => 0) ++ aW q1 cA 61 (fun _ => 0)) H := hP
  have hD : va_D (va_A ([(o0, .inr (3, [.null, .int 0, .null]))]) sz) ([(o0, .inr (3, [.ref q0, .int 0, .ref q1]))] ++ aW q0 cA 60 (fun _ => 0) ++ aW q1 cA 61 (fun _ => 0)) := hD
  have hP : va_P D vwCl (gW o0 q0 q1 cA 0 (fun _ => 0) (fun _ => 0)) H := hP.sub [0, 1, 2] rfl
  have hD : va_D (va_A ([(o0, .inr (3, [.null, .int 0, .null]))]) sz) (gW o0 q0 q1 cA 0 (fun _ => 0) (fun _ => 0)) := hD.sub [0, 1, 2] (by decide) rfl
  exact w_vret (S0 := Nat × Nat) (w1 := fun q => gW o0 q.1 q.2 cA 0 (fun _ => 0) (fun _ => 0)) (q0, q1) hx hb hr hlk hP hD hS trivial dX3_init_20

set_option maxHeartbeats 4000000 in
set_option maxRecDepth 100000 in
theorem k2_init (l0 : Launch) (D : va_G) (cA cC : ClassId) (o0 sz : Nat) : Met l0 yX2_init wsX2_init ({ frames := 1, cells := 6, slots := 360, locals := 20 }) (wPc D ([(o0, .inr (2, [.null, .null, .null, .null, .null, .null, .int 0]))]) [(cA, .int)] sz [.ref o0]) (va_Qv (fun g : Nat → Nat => g 7 = o0) (wB D ([(o0, .inr (2, [.null, .null, .null, .null, .null, .null, .int 0]))]) sz (fun g => noW g cA 0 (fun _ _ => 0))) (va_A ([(o0, .inr (2, [.null, .null, .null, .null, .null, .null, .int 0]))]) sz)) 6 360 (va_A ([(o0, .inr (2, [.null, .null, .null, .null, .null, .null, .int 0]))]) sz) := by
  refine w_head (C := RX2) (cc := cX2_init) (maxL := 1) (ret := none) [(0, .ref o0)] (by decide) rfl rfl (Nat.le_of_ble_eq_true rfl) rfl ?_
  intro p e s mi below meth cd hx hb hr hlk hml hown hin hts hP hD hS hA hK ls hl
  have hiX20 : ∀ w ∈ wsX20, w ∈ wsX2_init := fun w h => List.mem_cons_of_mem _ (List.mem_append_right _ h)
  have f0 := hts (.methodLink RX2 3 objectInit) (List.mem_of_getElem? (i := 1) rfl)
  have f1 := hts (.instanceMethod objectInit) (List.mem_of_getElem? (i := 2) rfl)
  have f2 := hts (.code objectInit ⟨#[0xb1]⟩ 1 none) (List.mem_of_getElem? (i := 3) rfl)
  have f3 := hts (.arrayClass .int) (List.mem_of_getElem? (i := 4) rfl)
  have f4 := hts (.fieldLink RX2 9 "StaffHeads$Notes" "staff" "[I") (List.mem_of_getElem? (i := 5) rfl)
  have f5 := hts (.fieldLink RX2 15 "StaffHeads$Notes" "voice" "[I") (List.mem_of_getElem? (i := 6) rfl)
  have f6 := hts (.fieldLink RX2 18 "StaffHeads$Notes" "tick" "[I") (List.mem_of_getElem? (i := 7) rfl)
  have f7 := hts (.fieldLink RX2 21 "StaffHeads$Notes" "number" "[I") (List.mem_of_getElem? (i := 8) rfl)
  have f8 := hts (.fieldLink RX2 24 "StaffHeads$Notes" "sign" "[I") (List.mem_of_getElem? (i := 9) rfl)
  have f9 := hts (.fieldLink RX2 27 "StaffHeads$Notes" "head" "[I") (List.mem_of_getElem? (i := 10) rfl)
  have f10 := hts (.fieldLink RX2 30 "StaffHeads$Notes" "count" "I") (List.mem_of_getElem? (i := 11) rfl)
  refine lv_aload_n hx hb dX2_init_0 rfl (lv_at hl 0 rfl) ?_
  refine W.objInit hx hb hown f0 f1 f2 rfl (by rw [hml]; exact hl.1) rfl dX2_init_1 (Nat.le_of_ble_eq_true rfl) (Nat.le_of_ble_eq_true rfl) ?_
  refine W.eq (g2 := F0 mi 4 ls []) rfl ?_
  refine lv_aload_n hx hb dX2_init_4 rfl (lv_at hl 0 rfl) ?_
  refine lv_bipush (v := 60) hx hb dX2_init_5 (by decide) ?_
  refine x_newa hx hb f3 hK hP hD hS hA 0 rfl 60 (by decide) (by decide) (by decide) (Nat.le_of_ble_eq_true rfl) (Nat.le_of_ble_eq_true rfl) dX2_init_7 (fun q0 H hP hD hS => ?_)
  have hP : va_P D vwCl ([(o0, .inr (2, [.null, .null, .null, .null, .null, .null, .int 0]))] ++ aW q0 cA 60 (fun _ => 0)) H := hP
  have hD : va_D (va_A ([(o0, .inr (2, [.null, .null, .null, .null, .null, .null, .int 0]))]) sz) ([(o0, .inr (2, [.null, .null, .null, .null, .null, .null, .int 0]))] ++ aW q0 cA 60 (fun _ => 0)) := hD
  refine va_putF (D := D) (ci := 2) (v := .ref q0) (ty := .array .int) (C := RX2) (T := TX2) (N := 7) hx hb hts hiX20 tyX2 tyX2_ok nmX2 hown hK.1 hP hD hS 0 rfl rfl 0 (by decide) f4 (fun _ h9 => h9) rfl hin rfl (by decide +kernel) rfl rfl (Nat.le_of_ble_eq_true rfl) dX2_init_9 (fun H locs hP hD hS => ?_)
  have hP : va_P D vwCl ([(o0, .inr (2, [.ref q0, .null, .null, .null, .null, .null, .int 0]))] ++ aW q0 cA 60 (fun _ => 0)) H := hP
  have hD : va_D (va_A ([(o0, .inr (2, [.null, .null, .null, .null, .null, .null, .int 0]))]) sz) ([(o0, .inr (2, [.ref q0, .null, .null, .null, .null, .null, .int 0]))] ++ aW q0 cA 60 (fun _ => 0)) := hD
  refine lv_aload_n hx hb dX2_init_12 rfl (lv_at hl 0 rfl) ?_
  refine lv_bipush (v := 60) hx hb dX2_init_13 (by decide) ?_
  refine x_newa hx hb f3 hK hP hD hS hA 0 rfl 60 (by decide) (by decide) (by decide) (Nat.le_of_ble_eq_true rfl) (Nat.le_of_ble_eq_true rfl) dX2_init_15 (fun q1 H hP hD hS => ?_)
  have hP : va_P D vwCl ([(o0, .inr (2, [.ref q0, .null, .null, .null, .null, .null, .int 0]))] ++ aW q0 cA 60 (fun _ => 0) ++ aW q1 cA 60 (fun _ => 0)) H := hP
  have hD : va_D (va_A ([(o0, .inr (2, [.null, .null, .null, .null, .null, .null, .int 0]))]) sz) ([(o0, .inr (2, [.ref q0, .null, .null, .null, .null, .null, .int 0]))] ++ aW q0 cA 60 (fun _ => 0) ++ aW q1 cA 60 (fun _ => 0)) := hD
  refine va_putF (D := D) (ci := 2) (v := .ref q1) (ty := .array .int) (C := RX2) (T := TX2) (N := 7) hx hb hts hiX20 tyX2 tyX2_ok nmX2 hown hK.1 hP hD hS 0 rfl rfl 1 (by decide) f5 (fun _ h9 => h9) rfl hin rfl (by decide +kernel) rfl rfl (Nat.le_of_ble_eq_true rfl) dX2_init_17 (fun H locs hP hD hS => ?_)
  have hP : va_P D vwCl ([(o0, .inr (2, [.ref q0, .ref q1, .null, .null, .null, .null, .int 0]))] ++ aW q0 cA 60 (fun _ => 0) ++ aW q1 cA 60 (fun _ => 0)) H := hP
  have hD : va_D (va_A ([(o0, .inr (2, [.null, .null, .null, .null, .null, .null, .int 0]))]) sz) ([(o0, .inr (2, [.ref q0, .ref q1, .null, .null, .null, .null, .int 0]))] ++ aW q0 cA 60 (fun _ => 0) ++ aW q1 cA 60 (fun _ => 0)) := hD
  refine lv_aload_n hx hb dX2_init_20 rfl (lv_at hl 0 rfl) ?_
  refine lv_bipush (v := 60) hx hb dX2_init_21 (by decide) ?_
  refine x_newa hx hb f3 hK hP hD hS hA 0 rfl 60 (by decide) (by decide) (by decide) (Nat.le_of_ble_eq_true rfl) (Nat.le_of_ble_eq_true rfl) dX2_init_23 (fun q2 H hP hD hS => ?_)
  have hP : va_P D vwCl ([(o0, .inr (2, [.ref q0, .ref q1, .null, .null, .null, .null, .int 0]))] ++ aW q0 cA 60 (fun _ => 0) ++ aW q1 cA 60 (fun _ => 0) ++ aW q2 cA 60 (fun _ => 0)) H := hP
  have hD : va_D (va_A ([(o0, .inr (2, [.null, .null, .null, .null, .null, .null, .int 0]))]) sz) ([(o0, .inr (2, [.ref q0, .ref q1, .null, .null, .null, .null, .int 0]))] ++ aW q0 cA 60 (fun _ => 0) ++ aW q1 cA 60 (fun _ => 0) ++ aW q2 cA 60 (fun _ => 0)) := hD
  refine va_putF (D := D) (ci := 2) (v := .ref q2) (ty := .array .int) (C := RX2) (T := TX2) (N := 7) hx hb hts hiX20 tyX2 tyX2_ok nmX2 hown hK.1 hP hD hS 0 rfl rfl 2 (by decide) f6 (fun _ h9 => h9) rfl hin rfl (by decide +kernel) rfl rfl (Nat.le_of_ble_eq_true rfl) dX2_init_25 (fun H locs hP hD hS => ?_)
  have hP : va_P D vwCl ([(o0, .inr (2, [.ref q0, .ref q1, .ref q2, .null, .null, .null, .int 0]))] ++ aW q0 cA 60 (fun _ => 0) ++ aW q1 cA 60 (fun _ => 0) ++ aW q2 cA 60 (fun _ => 0)) H := hP
  have hD : va_D (va_A ([(o0, .inr (2, [.null, .null, .null, .null, .null, .null, .int 0]))]) sz) ([(o0, .inr (2, [.ref q0, .ref q1, .ref q2, .null, .null, .null, .int 0]))] ++ aW q0 cA 60 (fun _ => 0) ++ aW q1 cA 60 (fun _ => 0) ++ aW q2 cA 60 (fun _ => 0)) := hD
  refine lv_aload_n hx hb dX2_init_28 rfl (lv_at hl 0 rfl) ?_
  refine lv_bipush (v := 60) hx hb dX2_init_29 (by decide) ?_
  refine x_newa hx hb f3 hK hP hD hS hA 0 rfl 60 (by decide) (by decide) (by decide) (Nat.le_of_ble_eq_true rfl) (Nat.le_of_ble_eq_true rfl) dX2_init_31 (fun q3 H hP hD hS => ?_)
  have hP : va_P D vwCl ([(o0, .inr (2, [.ref q0, .ref q1, .ref q2, .null, .null, .null, .int 0]))] ++ aW q0 cA 60 (fun _ => 0) ++ aW q1 cA 60 (fun _ => 0) ++ aW q2 cA 60 (fun _ => 0) ++ aW q3 cA 60 (fun _ => 0)) H := hP
  have hD : va_D (va_A ([(o0, .inr (2, [.null, .null, .null, .null, .null, .null, .int 0]))]) sz) ([(o0, .inr (2, [.ref q0, .ref q1, .ref q2, .null, .null, .null, .int 0]))] ++ aW q0 cA 60 (fun _ => 0) ++ aW q1 cA 60 (fun _ => 0) ++ aW q2 cA 60 (fun _ => 0) ++ aW q3 cA 60 (fun _ => 0)) := hD
  refine va_putF (D := D) (ci := 2) (v := .ref q3) (ty := .array .int) (C := RX2) (T := TX2) (N := 7) hx hb hts hiX20 tyX2 tyX2_ok nmX2 hown hK.1 hP hD hS 0 rfl rfl 3 (by decide) f7 (fun _ h9 => h9) rfl hin rfl (by decide +kernel) rfl rfl (Nat.le_of_ble_eq_true rfl) dX2_init_33 (fun H locs hP hD hS => ?_)
  have hP : va_P D vwCl ([(o0, .inr (2, [.ref q0, .ref q1, .ref q2, .ref q3, .null, .null, .int 0]))] ++ aW q0 cA 60 (fun _ => 0) ++ aW q1 cA 60 (fun _ => 0) ++ aW q2 cA 60 (fun _ => 0) ++ aW q3 cA 60 (fun _ => 0)) H := hP
  have hD : va_D (va_A ([(o0, .inr (2, [.null, .null, .null, .null, .null, .null, .int 0]))]) sz) ([(o0, .inr (2, [.ref q0, .ref q1, .ref q2, .ref q3, .null, .null, .int 0]))] ++ aW q0 cA 60 (fun _ => 0) ++ aW q1 cA 60 (fun _ => 0) ++ aW q2 cA 60 (fun _ => 0) ++ aW q3 cA 60 (fun _ => 0)) := hD
  refine lv_aload_n hx hb dX2_init_36 rfl (lv_at hl 0 rfl) ?_
  refine lv_bipush (v := 60) hx hb dX2_init_37 (by decide) ?_
  refine x_newa hx hb f3 hK hP hD hS hA 0 rfl 60 (by decide) (by decide) (by decide) (Nat.le_of_ble_eq_true rfl) (Nat.le_of_ble_eq_true rfl) dX2_init_39 (fun q4 H hP hD hS => ?_)
  have hP : va_P D vwCl ([(o0, .inr (2, [.ref q0, .ref q1, .ref q2, .ref q3, .null, .null, .int 0]))] ++ aW q0 cA 60 (fun _ => 0) ++ aW q1 cA 60 (fun _ => 0) ++ aW q2 cA 60 (fun _ => 0) ++ aW q3 cA 60 (fun _ => 0) ++ aW q4 cA 60 (fun _ => 0)) H := hP
  have hD : va_D (va_A ([(o0, .inr (2, [.null, .null, .null, .null, .null, .null, .int 0]))]) sz) ([(o0, .inr (2, [.ref q0, .ref q1, .ref q2, .ref q3, .null, .null, .int 0]))] ++ aW q0 cA 60 (fun _ => 0) ++ aW q1 cA 60 (fun _ => 0) ++ aW q2 cA 60 (fun _ => 0) ++ aW q3 cA 60 (fun _ => 0) ++ aW q4 cA 60 (fun _ => 0)) := hD
  refine va_putF (D := D) (ci := 2) (v := .ref q4) (ty := .array .int) (C := RX2) (T := TX2) (N := 7) hx hb hts hiX20 tyX2 tyX2_ok nmX2 hown hK.1 hP hD hS 0 rfl rfl 4 (by decide) f8 (fun _ h9 => h9) rfl hin rfl (by decide +kernel) rfl rfl (Nat.le_of_ble_eq_true rfl) dX2_init_41 (fun H locs hP hD hS => ?_)
  have hP : va_P D vwCl ([(o0, .inr (2, [.ref q0, .ref q1, .ref q2, .ref q3, .ref q4, .null, .int 0]))] ++ aW q0 cA 60 (fun _ => 0) ++ aW q1 cA 60 (fun _ => 0) ++ aW q2 cA 60 (fun _ => 0) ++ aW q3 cA 60 (fun _ => 0) ++ aW q4 cA 60 (fun _ => 0)) H := hP
  have hD : va_D (va_A ([(o0, .inr (2, [.null, .null, .null, .null, .null, .null, .int 0]))]) sz) ([(o0, .inr (2, [.ref q0, .ref q1, .ref q2, .ref q3, .ref q4, .null, .int 0]))] ++ aW q0 cA 60 (fun _ => 0) ++ aW q1 cA 60 (fun _ => 0) ++ aW q2 cA 60 (fun _ => 0) ++ aW q3 cA 60 (fun _ => 0) ++ aW q4 cA 60 (fun _ => 0)) := hD
  refine lv_aload_n hx hb dX2_init_44 rfl (lv_at hl 0 rfl) ?_
  refine lv_bipush (v := 60) hx hb dX2_init_45 (by decide) ?_
  refine x_newa hx hb f3 hK hP hD hS hA 0 rfl 60 (by decide) (by decide) (by decide) (Nat.le_of_ble_eq_true rfl) (Nat.le_of_ble_eq_true rfl) dX2_init_47 (fun q5 H hP hD hS => ?_)
  have hP : va_P D vwCl ([(o0, .inr (2, [.ref q0, .ref q1, .ref q2, .ref q3, .ref q4, .null, .int 0]))] ++ aW q0 cA 60 (fun _ => 0) ++ aW q1 cA 60 (fun _ => 0) ++ aW q2 cA 60 (fun _ => 0) ++ aW q3 cA 60 (fun _ => 0) ++ aW q4 cA 60 (fun _ => 0) ++ aW q5 cA 60 (fun _ => 0)) H := hP
  have hD : va_D (va_A ([(o0, .inr (2, [.null, .null, .null, .null, .null, .null, .int 0]))]) sz) ([(o0, .inr (2, [.ref q0, .ref q1, .ref q2, .ref q3, .ref q4, .null, .int 0]))] ++ aW q0 cA 60 (fun _ => 0) ++ aW q1 cA 60 (fun _ => 0) ++ aW q2 cA 60 (fun _ => 0) ++ aW q3 cA 60 (fun _ => 0) ++ aW q4 cA 60 (fun _ => 0) ++ aW q5 cA 60 (fun _ => 0)) := hD
  refine va_putF (D := D) (ci := 2) (v := .ref q5) (ty := .array .int) (C := RX2) (T := TX2) (N := 7) hx hb hts hiX20 tyX2 tyX2_ok nmX2 hown hK.1 hP hD hS 0 rfl rfl 5 (by decide) f9 (fun _ h9 => h9) rfl hin rfl (by decide +kernel) rfl rfl (Nat.le_of_ble_eq_true rfl) dX2_init_49 (fun H locs hP hD hS => ?_)
  have hP : va_P D vwCl ([(o0, .inr (2, [.ref q0, .ref q1, .ref q2, .ref q3, .ref q4, .ref q5, .int 0]))] ++ aW q0 cA 60 (fun _ => 0) ++ aW q1 cA 60 (fun _ => 0) ++ aW q2 cA 60 (fun _ => 0) ++ aW q3 cA 60 (fun _ => 0) ++ aW q4 cA 60 (fun _ => 0) ++ aW q5 cA 60 (fun _ => 0)) H := hP
  have hD : va_D (va_A ([(o0, .inr (2, [.null, .null, .null, .null, .null, .null, .int 0]))]) sz) ([(o0, .inr (2, [.ref q0, .ref q1, .ref q2, .ref q3, .ref q4, .ref q5, .int 0]))] ++ aW q0 cA 60 (fun _ => 0) ++ aW q1 cA 60 (fun _ => 0) ++ aW q2 cA 60 (fun _ => 0) ++ aW q3 cA 60 (fun _ => 0) ++ aW q4 cA 60 (fun _ => 0) ++ aW q5 cA 60 (fun _ => 0)) := hD
  refine lv_aload_n hx hb dX2_init_52 rfl (lv_at hl 0 rfl) ?_
  refine lv_iconst (v := 0) hx hb dX2_init_53 (by decide) ?_
  refine va_put (D := D) (ci := 2) (v := .int 0) (ty := .int) (C := RX2) (T := TX2) (N := 7) hx hb hts hiX20 tyX2 tyX2_ok nmX2 hown hK.1 hP hD hS 0 rfl rfl 6 (by decide) f10 (fun _ h9 => h9) rfl (by decide +kernel) rfl rfl (Nat.le_of_ble_eq_true rfl) dX2_init_54 (fun H locs hP hD hS => ?_)
  have hP : va_P D vwCl ([(o0, .inr (2, [.ref q0, .ref q1, .ref q2, .ref q3, .ref q4, .ref q5, .int 0]))] ++ aW q0 cA 60 (fun _ => 0) ++ aW q1 cA 60 (fun _ => 0) ++ aW q2 cA 60 (fun _ => 0) ++ aW q3 cA 60 (fun _ => 0) ++ aW q4 cA 60 (fun _ => 0) ++ aW q5 cA 60 (fun _ => 0)) H := hP
  have hD : va_D (va_A ([(o0, .inr (2, [.null, .null, .null, .null, .null, .null, .int 0]))]) sz) ([(o0, .inr (2, [.ref q0, .ref q1, .ref q2, .ref q3, .ref q4, .ref q5, .int 0]))] ++ aW q0 cA 60 (fun _ => 0) ++ aW q1 cA 60 (fun _ => 0) ++ aW q2 cA 60 (fun _ => 0) ++ aW q3 cA 60 (fun _ => 0) ++ aW q4 cA 60 (fun _ => 0) ++ aW q5 cA 60 (fun _ => 0)) := hD
  have hP : va_P D vwCl (noW (fun i => if i = 7 then o0 else if i = 8 then q0 else if i = 9 then q1 else if i = 10 then q2 else if i = 11 then q3 else if i = 12 then q4 else q5) cA 0 (fun _ _ => 0)) H := hP.sub [0, 1, 2, 3, 4, 5, 6] rfl
  have hD : va_D (va_A ([(o0, .inr (2, [.null, .null, .null, .null, .null, .null, .int 0]))]) sz) (noW (fun i => if i = 7 then o0 else if i = 8 then q0 else if i = 9 then q1 else if i = 10 then q2 else if i = 11 then q3 else if i = 12 then q4 else q5) cA 0 (fun _ _ => 0)) := hD.sub [0, 1, 2, 3, 4, 5, 6] (by decide) rfl
  exact w_vret (S0 := Nat → Nat) (w1 := fun g => noW g cA 0 (fun _ _ => 0)) (fun i => if i = 7 then o0 else if i = 8 then q0 else if i = 9 then q1 else if i = 10 then q2 else if i = 11 then q3 else if i = 12 then q4 else q5) hx hb hr hlk hP hD hS rfl dX2_init_57

set_option maxHeartbeats 4000000 in
set_option maxRecDepth 100000 in
theorem k4_init (l0 : Launch) (D : va_G) (cA cC : ClassId) (o0 sz : Nat) (zt : Nat) : Met l0 yX4_init wsX4_init ({ frames := 1, cells := 5, slots := 52, locals := 23 }) (zPc D ([(o0, .inr (4, [.null, .null, .null, .null, .null, .int 0]))]) [(cA, .int)] sz zt [.ref o0]) (va_Qv (fun x : (Nat → Nat) × (Nat → Int32) => x.1 1 = o0 ∧ ∀ j, j < 4 → x.2 j = rClef 0 - 2 * (2 - 1)) (wB D ([(o0, .inr (4, [.null, .null, .null, .null, .null, .int 0]))]) sz (fun x => svW x.1 cA 0 x.2 (fun _ _ => 0))) (va_A ([(o0, .inr (4, [.null, .null, .null, .null, .null, .int 0]))]) sz)) 5 52 (va_A ([(o0, .inr (4, [.null, .null, .null, .null, .null, .int 0]))]) sz) := by
  refine z_head (C := RX4) (cc := cX4_init) (maxL := 2) (ret := none) [(0, .ref o0)] (by decide) rfl rfl (Nat.le_of_ble_eq_true rfl) rfl ?_
  intro p e s mi below meth cd hx hb hr hlk hml hown hin hts hP hD hS hA hK hZ ls hl
  have hiX40 : ∀ w ∈ wsX40, w ∈ wsX4_init := fun w h => List.mem_cons_of_mem _ (List.mem_append_right _ h)
  have f0 := hts (.methodLink RX4 3 objectInit) (List.mem_of_getElem? (i := 1) rfl)
  have f1 := hts (.instanceMethod objectInit) (List.mem_of_getElem? (i := 2) rfl)
  have f2 := hts (.code objectInit ⟨#[0xb1]⟩ 1 none) (List.mem_of_getElem? (i := 3) rfl)
  have f3 := hts (.arrayClass .int) (List.mem_of_getElem? (i := 4) rfl)
  have f4 := hts (.fieldLink RX4 9 "StaffHeads$Staves" "lowestLine" "[I") (List.mem_of_getElem? (i := 5) rfl)
  have f5 := hts (.fieldLink RX4 15 "StaffHeads$Staves" "shiftStaff" "[I") (List.mem_of_getElem? (i := 6) rfl)
  have f6 := hts (.fieldLink RX4 18 "StaffHeads$Staves" "shiftFrom" "[I") (List.mem_of_getElem? (i := 7) rfl)
  have f7 := hts (.fieldLink RX4 21 "StaffHeads$Staves" "shiftTo" "[I") (List.mem_of_getElem? (i := 8) rfl)
  have f8 := hts (.fieldLink RX4 24 "StaffHeads$Staves" "shiftOctaves" "[I") (List.mem_of_getElem? (i := 9) rfl)
  have f9 := hts (.fieldLink RX4 27 "StaffHeads$Staves" "shifts" "I") (List.mem_of_getElem? (i := 10) rfl)
  refine lv_aload_n hx hb dX4_init_0 rfl (lv_at hl 0 rfl) ?_
  refine W.objInit hx hb hown f0 f1 f2 rfl (by rw [hml]; exact hl.1) rfl dX4_init_1 (Nat.le_of_ble_eq_true rfl) (Nat.le_of_ble_eq_true rfl) ?_
  refine W.eq (g2 := F0 mi 4 ls []) rfl ?_
  refine lv_aload_n hx hb dX4_init_4 rfl (lv_at hl 0 rfl) ?_
  refine lv_iconst (v := 4) hx hb dX4_init_5 (by decide) ?_
  refine x_newa hx hb f3 hK hP hD hS hA 0 rfl 4 (by decide) (by decide) (by decide) (Nat.le_of_ble_eq_true rfl) (Nat.le_of_ble_eq_true rfl) dX4_init_6 (fun q0 H hP hD hS => ?_)
  have hP : va_P D vwCl ([(o0, .inr (4, [.null, .null, .null, .null, .null, .int 0]))] ++ aW q0 cA 4 (fun _ => 0)) H := hP
  have hD : va_D (va_A ([(o0, .inr (4, [.null, .null, .null, .null, .null, .int 0]))]) sz) ([(o0, .inr (4, [.null, .null, .null, .null, .null, .int 0]))] ++ aW q0 cA 4 (fun _ => 0)) := hD
  refine va_putF (D := D) (ci := 4) (v := .ref q0) (ty := .array .int) (C := RX4) (T := TX4) (N := 6) hx hb hts hiX40 tyX4 tyX4_ok nmX4 hown hK.1 hP hD hS 0 rfl rfl 0 (by decide) f4 (fun _ h9 => h9) rfl hin rfl (by decide +kernel) rfl rfl (Nat.le_of_ble_eq_true rfl) dX4_init_8 (fun H locs hP hD hS => ?_)
  have hP : va_P D vwCl ([(o0, .inr (4, [.ref q0, .null, .null, .null, .null, .int 0]))] ++ aW q0 cA 4 (fun _ => 0)) H := hP
  have hD : va_D (va_A ([(o0, .inr (4, [.null, .null, .null, .null, .null, .int 0]))]) sz) ([(o0, .inr (4, [.ref q0, .null, .null, .null, .null, .int 0]))] ++ aW q0 cA 4 (fun _ => 0)) := hD
  refine lv_aload_n hx hb dX4_init_11 rfl (lv_at hl 0 rfl) ?_
  refine lv_bipush (v := 12) hx hb dX4_init_12 (by decide) ?_
  refine x_newa hx hb f3 hK hP hD hS hA 0 rfl 12 (by decide) (by decide) (by decide) (Nat.le_of_ble_eq_true rfl) (Nat.le_of_ble_eq_true rfl) dX4_init_14 (fun q1 H hP hD hS => ?_)
  have hP : va_P D vwCl ([(o0, .inr (4, [.ref q0, .null, .null, .null, .null, .int 0]))] ++ aW q0 cA 4 (fun _ => 0) ++ aW q1 cA 12 (fun _ => 0)) H := hP
  have hD : va_D (va_A ([(o0, .inr (4, [.null, .null, .null, .null, .null, .int 0]))]) sz) ([(o0, .inr (4, [.ref q0, .null, .null, .null, .null, .int 0]))] ++ aW q0 cA 4 (fun _ => 0) ++ aW q1 cA 12 (fun _ => 0)) := hD
  refine va_putF (D := D) (ci := 4) (v := .ref q1) (ty := .array .int) (C := RX4) (T := TX4) (N := 6) hx hb hts hiX40 tyX4 tyX4_ok nmX4 hown hK.1 hP hD hS 0 rfl rfl 1 (by decide) f5 (fun _ h9 => h9) rfl hin rfl (by decide +kernel) rfl rfl (Nat.le_of_ble_eq_true rfl) dX4_init_16 (fun H locs hP hD hS => ?_)
  have hP : va_P D vwCl ([(o0, .inr (4, [.ref q0, .ref q1, .null, .null, .null, .int 0]))] ++ aW q0 cA 4 (fun _ => 0) ++ aW q1 cA 12 (fun _ => 0)) H := hP
  have hD : va_D (va_A ([(o0, .inr (4, [.null, .null, .null, .null, .null, .int 0]))]) sz) ([(o0, .inr (4, [.ref q0, .ref q1, .null, .null, .null, .int 0]))] ++ aW q0 cA 4 (fun _ => 0) ++ aW q1 cA 12 (fun _ => 0)) := hD
  refine lv_aload_n hx hb dX4_init_19 rfl (lv_at hl 0 rfl) ?_
  refine lv_bipush (v := 12) hx hb dX4_init_20 (by decide) ?_
  refine x_newa hx hb f3 hK hP hD hS hA 0 rfl 12 (by decide) (by decide) (by decide) (Nat.le_of_ble_eq_true rfl) (Nat.le_of_ble_eq_true rfl) dX4_init_22 (fun q2 H hP hD hS => ?_)
  have hP : va_P D vwCl ([(o0, .inr (4, [.ref q0, .ref q1, .null, .null, .null, .int 0]))] ++ aW q0 cA 4 (fun _ => 0) ++ aW q1 cA 12 (fun _ => 0) ++ aW q2 cA 12 (fun _ => 0)) H := hP
  have hD : va_D (va_A ([(o0, .inr (4, [.null, .null, .null, .null, .null, .int 0]))]) sz) ([(o0, .inr (4, [.ref q0, .ref q1, .null, .null, .null, .int 0]))] ++ aW q0 cA 4 (fun _ => 0) ++ aW q1 cA 12 (fun _ => 0) ++ aW q2 cA 12 (fun _ => 0)) := hD
  refine va_putF (D := D) (ci := 4) (v := .ref q2) (ty := .array .int) (C := RX4) (T := TX4) (N := 6) hx hb hts hiX40 tyX4 tyX4_ok nmX4 hown hK.1 hP hD hS 0 rfl rfl 2 (by decide) f6 (fun _ h9 => h9) rfl hin rfl (by decide +kernel) rfl rfl (Nat.le_of_ble_eq_true rfl) dX4_init_24 (fun H locs hP hD hS => ?_)
  have hP : va_P D vwCl ([(o0, .inr (4, [.ref q0, .ref q1, .ref q2, .null, .null, .int 0]))] ++ aW q0 cA 4 (fun _ => 0) ++ aW q1 cA 12 (fun _ => 0) ++ aW q2 cA 12 (fun _ => 0)) H := hP
  have hD : va_D (va_A ([(o0, .inr (4, [.null, .null, .null, .null, .null, .int 0]))]) sz) ([(o0, .inr (4, [.ref q0, .ref q1, .ref q2, .null, .null, .int 0]))] ++ aW q0 cA 4 (fun _ => 0) ++ aW q1 cA 12 (fun _ => 0) ++ aW q2 cA 12 (fun _ => 0)) := hD
  refine lv_aload_n hx hb dX4_init_27 rfl (lv_at hl 0 rfl) ?_
  refine lv_bipush (v := 12) hx hb dX4_init_28 (by decide) ?_
  refine x_newa hx hb f3 hK hP hD hS hA 0 rfl 12 (by decide) (by decide) (by decide) (Nat.le_of_ble_eq_true rfl) (Nat.le_of_ble_eq_true rfl) dX4_init_30 (fun q3 H hP hD hS => ?_)
  have hP : va_P D vwCl ([(o0, .inr (4, [.ref q0, .ref q1, .ref q2, .null, .null, .int 0]))] ++ aW q0 cA 4 (fun _ => 0) ++ aW q1 cA 12 (fun _ => 0) ++ aW q2 cA 12 (fun _ => 0) ++ aW q3 cA 12 (fun _ => 0)) H := hP
  have hD : va_D (va_A ([(o0, .inr (4, [.null, .null, .null, .null, .null, .int 0]))]) sz) ([(o0, .inr (4, [.ref q0, .ref q1, .ref q2, .null, .null, .int 0]))] ++ aW q0 cA 4 (fun _ => 0) ++ aW q1 cA 12 (fun _ => 0) ++ aW q2 cA 12 (fun _ => 0) ++ aW q3 cA 12 (fun _ => 0)) := hD
  refine va_putF (D := D) (ci := 4) (v := .ref q3) (ty := .array .int) (C := RX4) (T := TX4) (N := 6) hx hb hts hiX40 tyX4 tyX4_ok nmX4 hown hK.1 hP hD hS 0 rfl rfl 3 (by decide) f7 (fun _ h9 => h9) rfl hin rfl (by decide +kernel) rfl rfl (Nat.le_of_ble_eq_true rfl) dX4_init_32 (fun H locs hP hD hS => ?_)
  have hP : va_P D vwCl ([(o0, .inr (4, [.ref q0, .ref q1, .ref q2, .ref q3, .null, .int 0]))] ++ aW q0 cA 4 (fun _ => 0) ++ aW q1 cA 12 (fun _ => 0) ++ aW q2 cA 12 (fun _ => 0) ++ aW q3 cA 12 (fun _ => 0)) H := hP
  have hD : va_D (va_A ([(o0, .inr (4, [.null, .null, .null, .null, .null, .int 0]))]) sz) ([(o0, .inr (4, [.ref q0, .ref q1, .ref q2, .ref q3, .null, .int 0]))] ++ aW q0 cA 4 (fun _ => 0) ++ aW q1 cA 12 (fun _ => 0) ++ aW q2 cA 12 (fun _ => 0) ++ aW q3 cA 12 (fun _ => 0)) := hD
  refine lv_aload_n hx hb dX4_init_35 rfl (lv_at hl 0 rfl) ?_
  refine lv_bipush (v := 12) hx hb dX4_init_36 (by decide) ?_
  refine x_newa hx hb f3 hK hP hD hS hA 0 rfl 12 (by decide) (by decide) (by decide) (Nat.le_of_ble_eq_true rfl) (Nat.le_of_ble_eq_true rfl) dX4_init_38 (fun q4 H hP hD hS => ?_)
  have hP : va_P D vwCl ([(o0, .inr (4, [.ref q0, .ref q1, .ref q2, .ref q3, .null, .int 0]))] ++ aW q0 cA 4 (fun _ => 0) ++ aW q1 cA 12 (fun _ => 0) ++ aW q2 cA 12 (fun _ => 0) ++ aW q3 cA 12 (fun _ => 0) ++ aW q4 cA 12 (fun _ => 0)) H := hP
  have hD : va_D (va_A ([(o0, .inr (4, [.null, .null, .null, .null, .null, .int 0]))]) sz) ([(o0, .inr (4, [.ref q0, .ref q1, .ref q2, .ref q3, .null, .int 0]))] ++ aW q0 cA 4 (fun _ => 0) ++ aW q1 cA 12 (fun _ => 0) ++ aW q2 cA 12 (fun _ => 0) ++ aW q3 cA 12 (fun _ => 0) ++ aW q4 cA 12 (fun _ => 0)) := hD
  refine va_putF (D := D) (ci := 4) (v := .ref q4) (ty := .array .int) (C := RX4) (T := TX4) (N := 6) hx hb hts hiX40 tyX4 tyX4_ok nmX4 hown hK.1 hP hD hS 0 rfl rfl 4 (by decide) f8 (fun _ h9 => h9) rfl hin rfl (by decide +kernel) rfl rfl (Nat.le_of_ble_eq_true rfl) dX4_init_40 (fun H locs hP hD hS => ?_)
  have hP : va_P D vwCl ([(o0, .inr (4, [.ref q0, .ref q1, .ref q2, .ref q3, .ref q4, .int 0]))] ++ aW q0 cA 4 (fun _ => 0) ++ aW q1 cA 12 (fun _ => 0) ++ aW q2 cA 12 (fun _ => 0) ++ aW q3 cA 12 (fun _ => 0) ++ aW q4 cA 12 (fun _ => 0)) H := hP
  have hD : va_D (va_A ([(o0, .inr (4, [.null, .null, .null, .null, .null, .int 0]))]) sz) ([(o0, .inr (4, [.ref q0, .ref q1, .ref q2, .ref q3, .ref q4, .int 0]))] ++ aW q0 cA 4 (fun _ => 0) ++ aW q1 cA 12 (fun _ => 0) ++ aW q2 cA 12 (fun _ => 0) ++ aW q3 cA 12 (fun _ => 0) ++ aW q4 cA 12 (fun _ => 0)) := hD
  refine lv_aload_n hx hb dX4_init_43 rfl (lv_at hl 0 rfl) ?_
  refine lv_iconst (v := 0) hx hb dX4_init_44 (by decide) ?_
  refine va_put (D := D) (ci := 4) (v := .int 0) (ty := .int) (C := RX4) (T := TX4) (N := 6) hx hb hts hiX40 tyX4 tyX4_ok nmX4 hown hK.1 hP hD hS 0 rfl rfl 5 (by decide) f9 (fun _ h9 => h9) rfl (by decide +kernel) rfl rfl (Nat.le_of_ble_eq_true rfl) dX4_init_45 (fun H locs hP hD hS => ?_)
  have hP : va_P D vwCl ([(o0, .inr (4, [.ref q0, .ref q1, .ref q2, .ref q3, .ref q4, .int 0]))] ++ aW q0 cA 4 (fun _ => 0) ++ aW q1 cA 12 (fun _ => 0) ++ aW q2 cA 12 (fun _ => 0) ++ aW q3 cA 12 (fun _ => 0) ++ aW q4 cA 12 (fun _ => 0)) H := hP
  have hD : va_D (va_A ([(o0, .inr (4, [.null, .null, .null, .null, .null, .int 0]))]) sz) ([(o0, .inr (4, [.ref q0, .ref q1, .ref q2, .ref q3, .ref q4, .int 0]))] ++ aW q0 cA 4 (fun _ => 0) ++ aW q1 cA 12 (fun _ => 0) ++ aW q2 cA 12 (fun _ => 0) ++ aW q3 cA 12 (fun _ => 0) ++ aW q4 cA 12 (fun _ => 0)) := hD
  have hP : va_P D vwCl (svW (fun i => if i = 1 then o0 else if i = 2 then q0 else if i = 3 then q1 else if i = 4 then q2 else if i = 5 then q3 else q4) cA 0 (fun _ => 0) (fun _ _ => 0)) H := hP.sub [0, 1, 2, 3, 4, 5] rfl
  have hD : va_D (va_A ([(o0, .inr (4, [.null, .null, .null, .null, .null, .int 0]))]) sz) (svW (fun i => if i = 1 then o0 else if i = 2 then q0 else if i = 3 then q1 else if i = 4 then q2 else if i = 5 then q3 else q4) cA 0 (fun _ => 0) (fun _ _ => 0)) := hD.sub [0, 1, 2, 3, 4, 5] (by decide) rfl
  refine lv_iconst (v := 0) hx hb dX4_init_48 (by decide) ?_
  refine x_tp (y := nI 0) nI_0.symm ?_
  refine lv_istore_n (lv' := [(1, .int (nI 0)), (0, .ref o0)]) hx hb dX4_init_49 rfl hl (by decide) rfl (fun ls hl => ?_)
  refine lpW (G := fun ls H locs => W p _ e _ s mi _ below meth cd H locs _ _ _ (F0 mi 50 ls [])) 2 4 (fun i (lo : Nat → Int32) => [(0, .ref o0), (1, .int (nI i))]) (fun i (lo : Nat → Int32) => svW (fun i => if i = 1 then o0 else if i = 2 then q0 else if i = 3 then q1 else if i = 4 then q2 else if i = 5 then q3 else q4) cA 0 lo (fun _ _ => 0)) (fun i lo => ∀ j, j < i → lo j = rClef 0 - 2 * (2 - 1)) ?_ 0 (fun _ => 0) (Nat.zero_le _) (fun k hk => absurd hk (Nat.not_lt_zero k)) (lv_sub hl [1, 0] rfl) hP hD hS
  clear hl hP hD hS
  intro i lo hi hiI ls H locs hl hP hD hS ihi
  refine lv_iload_n hx hb dX4_init_50 rfl (lv_at hl 1 rfl) ?_
  refine lv_iconst (v := 4) hx hb dX4_init_51 (by decide) ?_
  refine x_tp (y := nI 4) (show (4 : Int32) = nI 4 from rfl) ?_
  refine x_nge (tgt := 68) hx hb dX4_init_52 (by decide) (by omega) (by omega) (fun c_52 => ?_) (fun c_52 => ?_)
  · obtain rfl : 4 = i := by omega
    exact w_vret (S0 := (Nat → Nat) × (Nat → Int32)) (w1 := fun x => svW x.1 cA 0 x.2 (fun _ _ => 0)) ((fun i => if i = 1 then o0 else if i = 2 then q0 else if i = 3 then q1 else if i = 4 then q2 else if i = 5 then q3 else q4), lo) hx hb hr hlk hP hD hS ⟨rfl, hiI⟩ dX4_init_68
  · refine lv_aload_n hx hb dX4_init_55 rfl (lv_at hl 0 rfl) ?_
    refine lv_iload_n hx hb dX4_init_56 rfl (lv_at hl 1 rfl) ?_
    refine lv_iconst (v := 0) hx hb dX4_init_57 (by decide) ?_
    refine x_tp (y := nI 0) nI_0.symm ?_
    refine lv_iconst (v := 2) hx hb dX4_init_58 (by decide) ?_
    refine wgv (S0 := Unit) (wr := []) (va_runV (As := [.int (nI i), .int (nI 0), .int 2]) (rest := []) ⟨hx, hb, hml, hown, hts⟩ (k4_putClef l0 D (fun i => if i = 1 then o0 else if i = 2 then q0 else if i = 3 then q1 else if i = 4 then q2 else if i = 5 then q3 else q4) cA 0 lo (fun _ _ => 0) _ zt i 0 2 (by omega) (by decide)) (cwV 3 hts gX4_init_X4_putClef rfl rfl rfl (by decide +kernel) ⟨Nat.le_of_ble_eq_true rfl, Nat.le_of_ble_eq_true rfl⟩) (preZV (va_recv hK.1 hP (ci := 4) (q0 := 0) rfl rfl) hP hD hS hA hK hZ [0, 1, 2, 3, 4, 5] rfl (by decide)) rfl rfl hl.1 rfl (lv_room (Nat.le_of_ble_eq_true rfl)) dX4_init_59 ⟨Nat.le_of_ble_eq_true rfl, Nat.le_of_ble_eq_true rfl⟩) hP hD hS hA [0, 1, 2, 3, 4, 5] [] rfl rfl (by decide) (by decide) (fun _ H locs _ hP hD hS => ?_)
    have hP : va_P D vwCl (svW (fun i => if i = 1 then o0 else if i = 2 then q0 else if i = 3 then q1 else if i = 4 then q2 else if i = 5 then q3 else q4) cA 0 (upd lo i (rClef (nI 0) - 2 * (2 - 1))) (fun _ _ => 0)) H := hP.sub [0, 1, 2, 3, 4, 5] rfl
    have hD : va_D (va_A ([(o0, .inr (4, [.null, .null, .null, .null, .null, .int 0]))]) sz) (svW (fun i => if i = 1 then o0 else if i = 2 then q0 else if i = 3 then q1 else if i = 4 then q2 else if i = 5 then q3 else q4) cA 0 (upd lo i (rClef (nI 0) - 2 * (2 - 1))) (fun _ _ => 0)) := hD.sub [0, 1, 2, 3, 4, 5] (by decide) rfl
    refine lv_iinc (v := nI (i + 1)) (lv' := [(1, .int (nI (i + 1))), (0, .ref o0)]) hx hb dX4_init_62 hl (k := 1) rfl (x_inc i) (by decide) rfl (fun ls hl => ?_)
    refine lv_goto (tgt := 50) hx hb dX4_init_65 (by decide) ?_
    exact ihi (by omega) (upd lo i (rClef (nI 0) - 2 * (2 - 1))) _ _ _ (fun k hk => by by_cases h : k = i; (rw [h, pk_us]; rfl); (rw [pk_un h]; exact hiI k (by omega))) (lv_sub hl [1, 0] rfl) hP hD hS
