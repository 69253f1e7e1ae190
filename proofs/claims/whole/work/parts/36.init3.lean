theorem svW_g {g x : Nat → Nat} (h : ∀ i, 1 ≤ i → i < 7 → g i = x i) (cA : ClassId) (m : Nat) (lo : Nat → Int32) (a : Nat → Nat → Int32) : svW g cA m lo a = svW x cA m lo a := by
  unfold svW
  rw [h 1 (by decide) (by decide), h 2 (by decide) (by decide), h 3 (by decide) (by decide), h 4 (by decide) (by decide), h 5 (by decide) (by decide), h 6 (by decide) (by decide)]
theorem noW_g {g x : Nat → Nat} (h : ∀ i, 7 ≤ i → i < 14 → g i = x i) (cA : ClassId) (n : Nat) (a : Nat → Nat → Int32) : noW g cA n a = noW x cA n a := by
  unfold noW
  rw [h 7 (by decide) (by decide), h 8 (by decide) (by decide), h 9 (by decide) (by decide), h 10 (by decide) (by decide), h 11 (by decide) (by decide), h 12 (by decide) (by decide), h 13 (by decide) (by decide)]
theorem lyX_g {g x : Nat → Nat} (h : ∀ i, 14 ≤ i → g i = x i) (cA cC : ClassId) (sl : Prop) (X : lS) : lyX g cA cC sl X = lyX x cA cC sl X := by
  have hf : (fun i => some (g (28 + i))) = (fun i => some (x (28 + i))) := funext (fun i => by rw [h (28 + i) (by omega)])
  unfold lyX lyW
  rw [hf, h 14 (by decide), h 15 (by decide), h 16 (by decide), h 17 (by decide), h 18 (by decide), h 19 (by decide), h 20 (by decide), h 21 (by decide), h 22 (by decide), h 23 (by decide), h 24 (by decide), h 25 (by decide), h 26 (by decide), h 27 (by decide), h 28 (by decide), h 29 (by decide), h 30 (by decide), h 31 (by decide), h 32 (by decide), h 33 (by decide), h 34 (by decide), h 35 (by decide), h 36 (by decide)]
theorem ini_g (o0 : Nat) (x y z : Nat → Nat) : ∃ g : Nat → Nat, g 0 = o0 ∧ (∀ i, 1 ≤ i → i < 7 → g i = x i) ∧ (∀ i, 7 ≤ i → i < 14 → g i = y i) ∧ ∀ i, 14 ≤ i → g i = z i := by
  refine ⟨fun i => if i = 0 then o0 else if i < 7 then x i else if i < 14 then y i else z i, rfl, fun i h1 h2 => ?_, fun i h1 h2 => ?_, fun i h1 => ?_⟩
  · show (if i = 0 then o0 else if i < 7 then x i else if i < 14 then y i else z i) = x i
    rw [if_neg (by omega), if_pos h2]
  · show (if i = 0 then o0 else if i < 7 then x i else if i < 14 then y i else z i) = y i
    rw [if_neg (by omega), if_neg (by omega), if_pos h2]
  · show (if i = 0 then o0 else if i < 7 then x i else if i < 14 then y i else z i) = z i
    rw [if_neg (by omega), if_neg (by omega), if_neg (by omega)]
theorem ini_u (v : Int32) : ∃ u : Nat → Int32, u 1 = v ∧ u 2 = 2 ∧ u 3 = 6 ∧ u 4 = 0 ∧ u 0 = 0 := ⟨fun i => if i = 1 then v else if i = 2 then 2 else if i = 3 then 6 else 0, rfl, rfl, rfl, rfl, rfl⟩

set_option maxHeartbeats 4000000 in
set_option maxRecDepth 100000 in
theorem k5_init (l0 : Launch) (D : va_G) (cA cC : ClassId) (o0 sz : Nat) (zt : Nat) (p1 : Int32) : Met l0 yX5_init wsX5_init ({ frames := 3, cells := 36, slots := 3528, locals := 60 }) (zPc D ([(o0, .inr (5, [.int 0, .null, .null, .null, .int 0, .int 0, .int 0]))]) [(cA, .int), (cC, .object "StaffHeads$Chord")] sz zt [.ref o0, .int p1]) (va_Qv (fun v : (Nat → Nat) × (Nat → Int32) × (Nat → Int32) => v.1 0 = o0 ∧ (v.2.1 1 = (if okI p1 1 65536 then p1 else 10) ∧ v.2.1 2 = 2 ∧ v.2.1 3 = 6 ∧ v.2.1 4 = 0) ∧ ∀ j, j < 4 → v.2.2 j = rClef 0 - 2 * (2 - 1)) (wB D ([(o0, .inr (5, [.int 0, .null, .null, .null, .int 0, .int 0, .int 0]))]) sz (fun v => shW v.1 v.2.1 ++ svW v.1 cA 0 v.2.2 (fun _ _ => 0) ++ noW v.1 cA 0 (fun _ _ => 0) ++ lyX v.1 cA cC True zX)) (va_A ([(o0, .inr (5, [.int 0, .null, .null, .null, .int 0, .int 0, .int 0]))]) sz)) 36 3528 (va_A ([(o0, .inr (5, [.int 0, .null, .null, .null, .int 0, .int 0, .int 0]))]) sz) := by
  refine z_head (C := RX5) (cc := cX5_init) (maxL := 2) (ret := none) [(0, .ref o0), (1, .int p1)] (by decide) rfl rfl (Nat.le_of_ble_eq_true rfl) rfl ?_
  intro p e s mi below meth cd hx hb hr hlk hml hown hin hts hP hD hS hA hK hZ ls hl
  have hiX10 : ∀ w ∈ wsX10, w ∈ wsX5_init := fun w h => List.mem_cons_of_mem _ (List.mem_append_left _ (List.mem_append_left _ (List.mem_append_right _ h)))
  have hiX20 : ∀ w ∈ wsX20, w ∈ wsX5_init := fun w h => List.mem_cons_of_mem _ (List.mem_append_left _ (List.mem_append_left _ (List.mem_append_left _ (List.mem_append_right _ h))))
  have hiX40 : ∀ w ∈ wsX40, w ∈ wsX5_init := fun w h => List.mem_cons_of_mem _ (List.mem_append_left _ (List.mem_append_left _ (List.mem_append_left _ (List.mem_append_left _ (List.mem_append_left _ (List.mem_append_right _ h))))))
  have hiX50 : ∀ w ∈ wsX50, w ∈ wsX5_init := fun w h => List.mem_cons_of_mem _ (List.mem_append_left _ (List.mem_append_left _ (List.mem_append_left _ (List.mem_append_left _ (List.mem_append_right _ h)))))
  have f0 := hts (.methodLink RX5 1 objectInit) (List.mem_of_getElem? (i := 1) rfl)
  have f1 := hts (.instanceMethod objectInit) (List.mem_of_getElem? (i := 2) rfl)
  have f2 := hts (.code objectInit ⟨#[0xb1]⟩ 1 none) (List.mem_of_getElem? (i := 3) rfl)
  have f3 := hts (.classLink RX5 7 RX4) (List.mem_of_getElem? (i := 4) rfl)
  have f4 := hts (.instantiable RX4 6) (List.mem_of_getElem? (i := 5) rfl)
  have f5 := hts (.initialized RX4) (List.mem_of_getElem? (i := 6) rfl)
  have f6 := hts (.methodLink RX5 9 yX4_init) (List.mem_of_getElem? (i := 21) rfl)
  have f7 := hts (.instanceMethod yX4_init) (List.mem_of_getElem? (i := 22) rfl)
  have f8 := hts (.fieldLink RX5 10 "StaffHeads" "staves" "LStaffHeads$Staves;") (List.mem_of_getElem? (i := 7) rfl)
  have f9 := hts (.classLink RX5 16 RX2) (List.mem_of_getElem? (i := 8) rfl)
  have f10 := hts (.instantiable RX2 7) (List.mem_of_getElem? (i := 9) rfl)
  have f11 := hts (.initialized RX2) (List.mem_of_getElem? (i := 10) rfl)
  have f12 := hts (.instanceMethod yX2_init) (List.mem_of_getElem? (i := 36) rfl)
  have f13 := hts (.fieldLink RX5 19 "StaffHeads" "notes" "LStaffHeads$Notes;") (List.mem_of_getElem? (i := 11) rfl)
  have f14 := hts (.classLink RX5 23 RX1) (List.mem_of_getElem? (i := 12) rfl)
  have f15 := hts (.instantiable RX1 15) (List.mem_of_getElem? (i := 13) rfl)
  have f16 := hts (.initialized RX1) (List.mem_of_getElem? (i := 14) rfl)
  have f17 := hts (.instanceMethod yX1_init) (List.mem_of_getElem? (i := 46) rfl)
  have f18 := hts (.fieldLink RX5 26 "StaffHeads" "layout" "LStaffHeads$Layout;") (List.mem_of_getElem? (i := 15) rfl)
  have f19 := hts (.fieldLink RX5 30 "StaffHeads" "pad" "I") (List.mem_of_getElem? (i := 16) rfl)
  have f20 := hts (.fieldLink RX5 34 "StaffHeads" "least" "I") (List.mem_of_getElem? (i := 17) rfl)
  have f21 := hts (.fieldLink RX5 37 "StaffHeads" "hiding" "Z") (List.mem_of_getElem? (i := 18) rfl)
  have f22 := hts (.fieldLink RX5 46 "StaffHeads" "unit" "I") (List.mem_of_getElem? (i := 20) rfl)
  have f23 := hts (.constant RX5 41 (65536)) (List.mem_of_getElem? (i := 19) rfl)
  have hK1 : kK D [(cA, .int)] s := ⟨hK.1.sub [0] rfl, hK.2⟩
  refine lv_aload_n hx hb dX5_init_0 rfl (lv_at hl 0 rfl) ?_
  refine W.objInit hx hb hown f0 f1 f2 rfl (by rw [hml]; exact hl.1) rfl dX5_init_1 (Nat.le_of_ble_eq_true rfl) (Nat.le_of_ble_eq_true rfl) ?_
  refine W.eq (g2 := F0 mi 4 ls []) rfl ?_
  refine lv_aload_n hx hb dX5_init_4 rfl (lv_at hl 0 rfl) ?_
  refine va_new (ci := 4) (fs := [.null, .null, .null, .null, .null, .int 0]) (C := RX4) (T := TX4) (N := 6) hx hb hts hiX40 tyX4 tyX4_ok hown f3 f4 f5 hK.1 hP hD hS hA rfl (fun j hj => by rcases (show j = 0 ∨ j = 1 ∨ j = 2 ∨ j = 3 ∨ j = 4 ∨ j = 5 by omega) with rfl | rfl | rfl | rfl | rfl | rfl <;> rfl) (Nat.le_of_ble_eq_true rfl) (Nat.le_of_ble_eq_true rfl) dX5_init_5 (fun q0 H hP hD hS => ?_)
  have hP : va_P D vwCl ([(o0, .inr (5, [.int 0, .null, .null, .null, .int 0, .int 0, .int 0]))] ++ [(q0, .inr (4, [.null, .null, .null, .null, .null, .int 0]))]) H := hP
  have hD : va_D (va_A ([(o0, .inr (5, [.int 0, .null, .null, .null, .int 0, .int 0, .int 0]))]) sz) ([(o0, .inr (5, [.int 0, .null, .null, .null, .int 0, .int 0, .int 0]))] ++ [(q0, .inr (4, [.null, .null, .null, .null, .null, .int 0]))]) := hD
  refine lv_dup hx hb dX5_init_8 rfl ?_
  refine wgv (S0 := (Nat → Nat) × (Nat → Int32)) (wr := [(o0, .inr (5, [.int 0, .null, .null, .null, .int 0, .int 0, .int 0]))]) (va_runI (As := []) (rest := [.ref q0, .ref o0]) ⟨hx, hb, hml, hown, hts⟩ (k4_init l0 D cA cC q0 _ zt) (cwI 0 hts gX5_init_X4_init rfl rfl rfl f5 f6 f7 rfl (by decide +kernel) ⟨Nat.le_of_ble_eq_true rfl, Nat.le_of_ble_eq_true rfl⟩) (preZ hP hD hS hA hK1 hZ [1] rfl (by decide)) rfl rfl hl.1 rfl (lv_room (Nat.le_of_ble_eq_true rfl)) dX5_init_9 ⟨Nat.le_of_ble_eq_true rfl, Nat.le_of_ble_eq_true rfl⟩) hP hD hS hA [1] [0] rfl rfl (by decide) (by decide) (fun h1 H locs ⟨e1, elo⟩ hP hD hS => ?_)
  have hP : va_P D vwCl ([(o0, .inr (5, [.int 0, .null, .null, .null, .int 0, .int 0, .int 0]))] ++ svW (h1.1) cA 0 h1.2 (fun _ _ => 0)) H := hP
  have hD : va_D (va_A ([(o0, .inr (5, [.int 0, .null, .null, .null, .int 0, .int 0, .int 0]))]) sz) ([(o0, .inr (5, [.int 0, .null, .null, .null, .int 0, .int 0, .int 0]))] ++ svW (h1.1) cA 0 h1.2 (fun _ _ => 0)) := hD
  refine va_putF (D := D) (ci := 5) (v := .ref q0) (ty := .object "StaffHeads$Staves") (C := RX5) (T := TX5) (N := 7) hx hb hts hiX50 tyX5 tyX5_ok nmX5 hown hK.1 hP hD hS 0 rfl rfl 1 (by decide) f8 (fun _ h9 => h9) rfl hin rfl (by decide +kernel) rfl rfl (Nat.le_of_ble_eq_true rfl) dX5_init_12 (fun H locs hP hD hS => ?_)
  have hP : va_P D vwCl ([(o0, .inr (5, [.int 0, .ref q0, .null, .null, .int 0, .int 0, .int 0]))] ++ svW (h1.1) cA 0 h1.2 (fun _ _ => 0)) H := hP
  have hD : va_D (va_A ([(o0, .inr (5, [.int 0, .null, .null, .null, .int 0, .int 0, .int 0]))]) sz) ([(o0, .inr (5, [.int 0, .ref q0, .null, .null, .int 0, .int 0, .int 0]))] ++ svW (h1.1) cA 0 h1.2 (fun _ _ => 0)) := hD
  refine lv_aload_n hx hb dX5_init_15 rfl (lv_at hl 0 rfl) ?_
  refine va_new (ci := 2) (fs := [.null, .null, .null, .null, .null, .null, .int 0]) (C := RX2) (T := TX2) (N := 7) hx hb hts hiX20 tyX2 tyX2_ok hown f9 f10 f11 hK.1 hP hD hS hA rfl (fun j hj => by rcases (show j = 0 ∨ j = 1 ∨ j = 2 ∨ j = 3 ∨ j = 4 ∨ j = 5 ∨ j = 6 by omega) with rfl | rfl | rfl | rfl | rfl | rfl | rfl <;> rfl) (Nat.le_of_ble_eq_true rfl) (Nat.le_of_ble_eq_true rfl) dX5_init_16 (fun q2 H hP hD hS => ?_)
  have hP : va_P D vwCl ([(o0, .inr (5, [.int 0, .ref q0, .null, .null, .int 0, .int 0, .int 0]))] ++ svW (h1.1) cA 0 h1.2 (fun _ _ => 0) ++ [(q2, .inr (2, [.null, .null, .null, .null, .null, .null, .int 0]))]) H := hP
  have hD : va_D (va_A ([(o0, .inr (5, [.int 0, .null, .null, .null, .int 0, .int 0, .int 0]))]) sz) ([(o0, .inr (5, [.int 0, .ref q0, .null, .null, .int 0, .int 0, .int 0]))] ++ svW (h1.1) cA 0 h1.2 (fun _ _ => 0) ++ [(q2, .inr (2, [.null, .null, .null, .null, .null, .null, .int 0]))]) := hD
  refine lv_dup hx hb dX5_init_19 rfl ?_
  refine wgv (S0 := Nat → Nat) (wr := [(o0, .inr (5, [.int 0, .ref q0, .null, .null, .int 0, .int 0, .int 0]))] ++ svW (h1.1) cA 0 h1.2 (fun _ _ => 0)) (va_runIN (As := []) (rest := [.ref q2, .ref o0]) ⟨hx, hb, hml, hown, hts⟩ (k2_init l0 D cA cC q2 _) ⟨va_cnB (host := RX5) 0 hts gX5_init_X2_init_n18 rfl rfl rfl hK.2.1 f11 (by decide +kernel) ⟨Nat.le_of_ble_eq_true rfl, Nat.le_of_ble_eq_true rfl⟩, rfl, f12⟩ (preW hP hD hK1 [7] rfl (by decide)) rfl rfl hl.1 rfl (lv_room (Nat.le_of_ble_eq_true rfl)) dX5_init_20 ⟨Nat.le_of_ble_eq_true rfl, Nat.le_of_ble_eq_true rfl⟩) hP hD hS hA [7] [0, 1, 2, 3, 4, 5, 6] rfl rfl (by decide) (by decide) (fun h3 H locs e3 hP hD hS => ?_)
  have hP : va_P D vwCl ([(o0, .inr (5, [.int 0, .ref q0, .null, .null, .int 0, .int 0, .int 0]))] ++ svW (h1.1) cA 0 h1.2 (fun _ _ => 0) ++ noW h3 cA 0 (fun _ _ => 0)) H := hP
  have hD : va_D (va_A ([(o0, .inr (5, [.int 0, .null, .null, .null, .int 0, .int 0, .int 0]))]) sz) ([(o0, .inr (5, [.int 0, .ref q0, .null, .null, .int 0, .int 0, .int 0]))] ++ svW (h1.1) cA 0 h1.2 (fun _ _ => 0) ++ noW h3 cA 0 (fun _ _ => 0)) := hD
  refine va_putF (D := D) (ci := 5) (v := .ref q2) (ty := .object "StaffHeads$Notes") (C := RX5) (T := TX5) (N := 7) hx hb hts hiX50 tyX5 tyX5_ok nmX5 hown hK.1 hP hD hS 0 rfl rfl 2 (by decide) f13 (fun _ h9 => h9) rfl hin rfl (by decide +kernel) rfl rfl (Nat.le_of_ble_eq_true rfl) dX5_init_23 (fun H locs hP hD hS => ?_)
  have hP : va_P D vwCl ([(o0, .inr (5, [.int 0, .ref q0, .ref q2, .null, .int 0, .int 0, .int 0]))] ++ svW (h1.1) cA 0 h1.2 (fun _ _ => 0) ++ noW h3 cA 0 (fun _ _ => 0)) H := hP
  have hD : va_D (va_A ([(o0, .inr (5, [.int 0, .null, .null, .null, .int 0, .int 0, .int 0]))]) sz) ([(o0, .inr (5, [.int 0, .ref q0, .ref q2, .null, .int 0, .int 0, .int 0]))] ++ svW (h1.1) cA 0 h1.2 (fun _ _ => 0) ++ noW h3 cA 0 (fun _ _ => 0)) := hD
  refine lv_aload_n hx hb dX5_init_26 rfl (lv_at hl 0 rfl) ?_
  refine va_new (ci := 1) (fs := [.int 0, .null, .null, .null, .null, .null, .null, .null, .null, .null, .null, .null, .null, .null, .null]) (C := RX1) (T := TX1) (N := 15) hx hb hts hiX10 tyX1 tyX1_ok hown f14 f15 f16 hK.1 hP hD hS hA rfl (fun j hj => by rcases (show j = 0 ∨ j = 1 ∨ j = 2 ∨ j = 3 ∨ j = 4 ∨ j = 5 ∨ j = 6 ∨ j = 7 ∨ j = 8 ∨ j = 9 ∨ j = 10 ∨ j = 11 ∨ j = 12 ∨ j = 13 ∨ j = 14 by omega) with rfl | rfl | rfl | rfl | rfl | rfl | rfl | rfl | rfl | rfl | rfl | rfl | rfl | rfl | rfl <;> rfl) (Nat.le_of_ble_eq_true rfl) (Nat.le_of_ble_eq_true rfl) dX5_init_27 (fun q4 H hP hD hS => ?_)
  have hP : va_P D vwCl ([(o0, .inr (5, [.int 0, .ref q0, .ref q2, .null, .int 0, .int 0, .int 0]))] ++ svW (h1.1) cA 0 h1.2 (fun _ _ => 0) ++ noW h3 cA 0 (fun _ _ => 0) ++ [(q4, .inr (1, [.int 0, .null, .null, .null, .null, .null, .null, .null, .null, .null, .null, .null, .null, .null, .null]))]) H := hP
  have hD : va_D (va_A ([(o0, .inr (5, [.int 0, .null, .null, .null, .int 0, .int 0, .int 0]))]) sz) ([(o0, .inr (5, [.int 0, .ref q0, .ref q2, .null, .int 0, .int 0, .int 0]))] ++ svW (h1.1) cA 0 h1.2 (fun _ _ => 0) ++ noW h3 cA 0 (fun _ _ => 0) ++ [(q4, .inr (1, [.int 0, .null, .null, .null, .null, .null, .null, .null, .null, .null, .null, .null, .null, .null, .null]))]) := hD
  refine lv_dup hx hb dX5_init_30 rfl ?_
  refine wgv (S0 := Nat → Nat) (wr := [(o0, .inr (5, [.int 0, .ref q0, .ref q2, .null, .int 0, .int 0, .int 0]))] ++ svW (h1.1) cA 0 h1.2 (fun _ _ => 0) ++ noW h3 cA 0 (fun _ _ => 0)) (va_runIN (As := []) (rest := [.ref q4, .ref o0]) ⟨hx, hb, hml, hown, hts⟩ (k1_init l0 D cA cC q4 _ zt) ⟨va_cnB (host := RX5) 0 hts gX5_init_X1_init_n25 rfl rfl rfl hK.2.2.1 f16 (by decide +kernel) ⟨Nat.le_of_ble_eq_true rfl, Nat.le_of_ble_eq_true rfl⟩, rfl, f17⟩ (preZ hP hD hS hA hK hZ [14] rfl (by decide)) rfl rfl hl.1 rfl (lv_room (Nat.le_of_ble_eq_true rfl)) dX5_init_31 ⟨Nat.le_of_ble_eq_true rfl, Nat.le_of_ble_eq_true rfl⟩) hP hD hS hA [14] [0, 1, 2, 3, 4, 5, 6, 7, 8, 9, 10, 11, 12, 13] rfl rfl (by decide) (by decide) (fun h5 H locs e5 hP hD hS => ?_)
  have hP : va_P D vwCl ([(o0, .inr (5, [.int 0, .ref q0, .ref q2, .null, .int 0, .int 0, .int 0]))] ++ svW (h1.1) cA 0 h1.2 (fun _ _ => 0) ++ noW h3 cA 0 (fun _ _ => 0) ++ lyX h5 cA cC True zX) H := hP
  have hD : va_D (va_A ([(o0, .inr (5, [.int 0, .null, .null, .null, .int 0, .int 0, .int 0]))]) sz) ([(o0, .inr (5, [.int 0, .ref q0, .ref q2, .null, .int 0, .int 0, .int 0]))] ++ svW (h1.1) cA 0 h1.2 (fun _ _ => 0) ++ noW h3 cA 0 (fun _ _ => 0) ++ lyX h5 cA cC True zX) := hD
  refine va_putF (D := D) (ci := 5) (v := .ref q4) (ty := .object "StaffHeads$Layout") (C := RX5) (T := TX5) (N := 7) hx hb hts hiX50 tyX5 tyX5_ok nmX5 hown hK.1 hP hD hS 0 rfl rfl 3 (by decide) f18 (fun _ h9 => h9) rfl hin rfl (by decide +kernel) rfl rfl (Nat.le_of_ble_eq_true rfl) dX5_init_34 (fun H locs hP hD hS => ?_)
  have hP : va_P D vwCl ([(o0, .inr (5, [.int 0, .ref q0, .ref q2, .ref q4, .int 0, .int 0, .int 0]))] ++ svW (h1.1) cA 0 h1.2 (fun _ _ => 0) ++ noW h3 cA 0 (fun _ _ => 0) ++ lyX h5 cA cC True zX) H := hP
  have hD : va_D (va_A ([(o0, .inr (5, [.int 0, .null, .null, .null, .int 0, .int 0, .int 0]))]) sz) ([(o0, .inr (5, [.int 0, .ref q0, .ref q2, .ref q4, .int 0, .int 0, .int 0]))] ++ svW (h1.1) cA 0 h1.2 (fun _ _ => 0) ++ noW h3 cA 0 (fun _ _ => 0) ++ lyX h5 cA cC True zX) := hD
  refine lv_aload_n hx hb dX5_init_37 rfl (lv_at hl 0 rfl) ?_
  refine lv_iconst (v := 2) hx hb dX5_init_38 (by decide) ?_
  refine va_put (D := D) (ci := 5) (v := .int 2) (ty := .int) (C := RX5) (T := TX5) (N := 7) hx hb hts hiX50 tyX5 tyX5_ok nmX5 hown hK.1 hP hD hS 0 rfl rfl 4 (by decide) f19 (fun _ h9 => h9) rfl (by decide +kernel) rfl rfl (Nat.le_of_ble_eq_true rfl) dX5_init_39 (fun H locs hP hD hS => ?_)
  have hP : va_P D vwCl ([(o0, .inr (5, [.int 0, .ref q0, .ref q2, .ref q4, .int 2, .int 0, .int 0]))] ++ svW (h1.1) cA 0 h1.2 (fun _ _ => 0) ++ noW h3 cA 0 (fun _ _ => 0) ++ lyX h5 cA cC True zX) H := hP
  have hD : va_D (va_A ([(o0, .inr (5, [.int 0, .null, .null, .null, .int 0, .int 0, .int 0]))]) sz) ([(o0, .inr (5, [.int 0, .ref q0, .ref q2, .ref q4, .int 2, .int 0, .int 0]))] ++ svW (h1.1) cA 0 h1.2 (fun _ _ => 0) ++ noW h3 cA 0 (fun _ _ => 0) ++ lyX h5 cA cC True zX) := hD
  refine lv_aload_n hx hb dX5_init_42 rfl (lv_at hl 0 rfl) ?_
  refine lv_bipush (v := 6) hx hb dX5_init_43 (by decide) ?_
  refine va_put (D := D) (ci := 5) (v := .int 6) (ty := .int) (C := RX5) (T := TX5) (N := 7) hx hb hts hiX50 tyX5 tyX5_ok nmX5 hown hK.1 hP hD hS 0 rfl rfl 5 (by decide) f20 (fun _ h9 => h9) rfl (by decide +kernel) rfl rfl (Nat.le_of_ble_eq_true rfl) dX5_init_45 (fun H locs hP hD hS => ?_)
  have hP : va_P D vwCl ([(o0, .inr (5, [.int 0, .ref q0, .ref q2, .ref q4, .int 2, .int 6, .int 0]))] ++ svW (h1.1) cA 0 h1.2 (fun _ _ => 0) ++ noW h3 cA 0 (fun _ _ => 0) ++ lyX h5 cA cC True zX) H := hP
  have hD : va_D (va_A ([(o0, .inr (5, [.int 0, .null, .null, .null, .int 0, .int 0, .int 0]))]) sz) ([(o0, .inr (5, [.int 0, .ref q0, .ref q2, .ref q4, .int 2, .int 6, .int 0]))] ++ svW (h1.1) cA 0 h1.2 (fun _ _ => 0) ++ noW h3 cA 0 (fun _ _ => 0) ++ lyX h5 cA cC True zX) := hD
  refine lv_aload_n hx hb dX5_init_48 rfl (lv_at hl 0 rfl) ?_
  refine lv_iconst (v := 0) hx hb dX5_init_49 (by decide) ?_
  refine va_put (D := D) (ci := 5) (v := .int 0) (ty := .boolean) (C := RX5) (T := TX5) (N := 7) hx hb hts hiX50 tyX5 tyX5_ok nmX5 hown hK.1 hP hD hS 0 rfl rfl 6 (by decide) f21 (fun _ h9 => h9) rfl (by decide +kernel) rfl rfl (Nat.le_of_ble_eq_true rfl) dX5_init_50 (fun H locs hP hD hS => ?_)
  have hP : va_P D vwCl ([(o0, .inr (5, [.int 0, .ref q0, .ref q2, .ref q4, .int 2, .int 6, .int 0]))] ++ svW (h1.1) cA 0 h1.2 (fun _ _ => 0) ++ noW h3 cA 0 (fun _ _ => 0) ++ lyX h5 cA cC True zX) H := hP
  have hD : va_D (va_A ([(o0, .inr (5, [.int 0, .null, .null, .null, .int 0, .int 0, .int 0]))]) sz) ([(o0, .inr (5, [.int 0, .ref q0, .ref q2, .ref q4, .int 2, .int 6, .int 0]))] ++ svW (h1.1) cA 0 h1.2 (fun _ _ => 0) ++ noW h3 cA 0 (fun _ _ => 0) ++ lyX h5 cA cC True zX) := hD
  refine lv_aload_n hx hb dX5_init_53 rfl (lv_at hl 0 rfl) ?_
  refine x_joinW (D := D) (A := (va_A ([(o0, .inr (5, [.int 0, .null, .null, .null, .int 0, .int 0, .int 0]))]) sz)) (H0 := s.heap) 2 [(0, .ref o0), (1, .int p1)] ([(o0, .inr (5, [.int 0, .ref q0, .ref q2, .ref q4, .int 2, .int 6, .int 0]))] ++ svW (h1.1) cA 0 h1.2 (fun _ _ => 0) ++ noW h3 cA 0 (fun _ _ => 0) ++ lyX h5 cA cC True zX) 70 [.int (if okI p1 1 65536 then p1 else 10), .ref o0] ?_ (fun j_70 => ?_)
  · intro ls H locs hl hP hD hS
    refine va_putF (D := D) (ci := 5) (v := .int (if okI p1 1 65536 then p1 else 10)) (ty := .int) (C := RX5) (T := TX5) (N := 7) hx hb hts hiX50 tyX5 tyX5_ok nmX5 hown hK.1 hP hD hS 0 rfl rfl 0 (by decide) f22 (fun _ h9 => h9) rfl hin rfl (by decide +kernel) rfl rfl (Nat.le_of_ble_eq_true rfl) dX5_init_70 (fun H locs hP hD hS => ?_)
    have hP : va_P D vwCl ([(o0, .inr (5, [.int (if okI p1 1 65536 then p1 else 10), .ref q0, .ref q2, .ref q4, .int 2, .int 6, .int 0]))] ++ svW (h1.1) cA 0 h1.2 (fun _ _ => 0) ++ noW h3 cA 0 (fun _ _ => 0) ++ lyX h5 cA cC True zX) H := hP
    have hD : va_D (va_A ([(o0, .inr (5, [.int 0, .null, .null, .null, .int 0, .int 0, .int 0]))]) sz) ([(o0, .inr (5, [.int (if okI p1 1 65536 then p1 else 10), .ref q0, .ref q2, .ref q4, .int 2, .int 6, .int 0]))] ++ svW (h1.1) cA 0 h1.2 (fun _ _ => 0) ++ noW h3 cA 0 (fun _ _ => 0) ++ lyX h5 cA cC True zX) := hD
    obtain ⟨g, hg0, hg1, hg2, hg3⟩ := ini_g o0 h1.1 h3 h5
    obtain ⟨u, hu1, hu2, hu3, hu4, -⟩ := ini_u (if okI p1 1 65536 then p1 else 10)
    have hP : va_P D vwCl (shW g u ++ svW g cA 0 h1.2 (fun _ _ => 0) ++ noW g cA 0 (fun _ _ => 0) ++ lyX g cA cC True zX) H := by rw [svW_g hg1, noW_g hg2, lyX_g hg3]; unfold shW; rw [hg0, hg1 1 (by decide) (by decide), hg2 7 (by decide) (by decide), hg3 14 (by decide), hu1, hu2, hu3, hu4, e1, e3, e5]; exact hP.sub [0, 1, 2, 3, 4, 5, 6, 7, 8, 9, 10, 11, 12, 13, 14, 15, 16, 17, 18, 19, 20, 21, 22, 23, 24, 25, 26, 27, 28, 29, 30, 31, 32, 33, 34, 35, 36] rfl
    have hD : va_D (va_A ([(o0, .inr (5, [.int 0, .null, .null, .null, .int 0, .int 0, .int 0]))]) sz) (shW g u ++ svW g cA 0 h1.2 (fun _ _ => 0) ++ noW g cA 0 (fun _ _ => 0) ++ lyX g cA cC True zX) := by rw [svW_g hg1, noW_g hg2, lyX_g hg3]; unfold shW; rw [hg0, hg1 1 (by decide) (by decide), hg2 7 (by decide) (by decide), hg3 14 (by decide), hu1, hu2, hu3, hu4, e1, e3, e5]; exact hD.sub [0, 1, 2, 3, 4, 5, 6, 7, 8, 9, 10, 11, 12, 13, 14, 15, 16, 17, 18, 19, 20, 21, 22, 23, 24, 25, 26, 27, 28, 29, 30, 31, 32, 33, 34, 35, 36] (by decide) rfl
    exact w_vret (S0 := (Nat → Nat) × (Nat → Int32) × (Nat → Int32)) (w1 := fun v => shW v.1 v.2.1 ++ svW v.1 cA 0 v.2.2 (fun _ _ => 0) ++ noW v.1 cA 0 (fun _ _ => 0) ++ lyX v.1 cA cC True zX) (g, u, h1.2) hx hb hr hlk hP hD hS ⟨hg0, ⟨hu1, hu2, hu3, hu4⟩, elo⟩ dX5_init_73
  refine lv_iload_n hx hb dX5_init_54 rfl (lv_at hl 1 rfl) ?_
  refine lv_iconst (v := 1) hx hb dX5_init_55 (by decide) ?_
  refine lv_ldc (v := 65536) hx hb hown f23 dX5_init_56 ?_
  refine rcSi (As := [.int p1, .int 1, .int 65536]) (rest := [.ref o0]) ⟨hx, hb, hml, hown, hts⟩ (k5_within l0 p1 1 65536) (va_cwS 3 hts gX5_init_X5_within rfl rfl rfl (by decide +kernel) ⟨Nat.le_of_ble_eq_true rfl, Nat.le_of_ble_eq_true rfl⟩) rfl hl.1 rfl (Nat.le_of_ble_eq_true rfl) dX5_init_58 ⟨Nat.le_of_ble_eq_true rfl, Nat.le_of_ble_eq_true rfl⟩ ?_
  refine x_ifeq (tgt := 68) hx hb dX5_init_61 (by decide) (fun (c_61 : ¬ (okI p1 1 65536)) => ?_) (fun (c_61 : okI p1 1 65536) => ?_)
  · refine lv_bipush (v := 10) hx hb dX5_init_68 (by decide) ?_
    refine x_tp (y := (if okI p1 1 65536 then p1 else 10)) (by rw [if_neg c_61]) ?_
    exact j_70 _ _ _ (lv_sub hl [0, 1] rfl) hP hD hS
  · refine lv_iload_n hx hb dX5_init_64 rfl (lv_at hl 1 rfl) ?_
    refine lv_goto (tgt := 70) hx hb dX5_init_65 (by decide) ?_
    refine x_tp (y := (if okI p1 1 65536 then p1 else 10)) (by rw [if_pos c_61]) ?_
    exact j_70 _ _ _ (lv_sub hl [0, 1] rfl) hP hD hS
