set_option maxHeartbeats 4000000 in
set_option maxRecDepth 100000 in
theorem k3_clear (l : Launch) (D : va_G) (cA : ClassId) (g0 g1 g2 zs : Nat) (Mb T : Nat → Nat) (sz : Nat) : Met l yX3_clear wsX3_clear ({ frames := 0, cells := 0, slots := 0, locals := 0 }) (wPc D (gW g0 g1 g2 cA zs Mb T) [(cA, .int)] sz [.ref g0]) (va_Qv (fun _ : Unit => True) (wB D (gW g0 g1 g2 cA zs Mb T) sz (fun _ => gW g0 g1 g2 cA 0 Mb T)) (va_A (gW g0 g1 g2 cA zs Mb T) sz)) 0 0 (va_A (gW g0 g1 g2 cA zs Mb T) sz) := by
  refine w_head (C := RX3) (cc := cX3_clear) (maxL := 1) (ret := none) [(0, .ref g0)] (by decide) rfl rfl (Nat.le_of_ble_eq_true rfl) rfl ?_
  intro p e s mi below meth cd hx hb hr hlk hml hown hin hts hP hD hS hA hK ls hl
  have hiX30 : ∀ w ∈ wsX30, w ∈ wsX3_clear := fun w h => List.mem_cons_of_mem _ (List.mem_append_right _ h)
  have f0 := hts (.fieldLink RX3 18 "StaffHeads$Signs" "size" "I") (List.mem_of_getElem? (i := 1) rfl)
  refine lv_aload_n hx hb dX3_clear_0 rfl (lv_at hl 0 rfl) ?_
  refine lv_iconst (v := 0) hx hb dX3_clear_1 (by decide) ?_
  refine x_tp (y := nI 0) nI_0.symm ?_
  refine va_put (D := D) (ci := 3) (v := .int (nI 0)) (ty := .int) (C := RX3) (T := TX3) (N := 3) hx hb hts hiX30 tyX3 tyX3_ok nmX3 hown hK.1 hP hD hS 0 rfl rfl 1 (by decide) f0 (fun _ h9 => h9) rfl (by decide +kernel) rfl rfl (Nat.le_of_ble_eq_true rfl) dX3_clear_2 (fun H locs hP hD hS => ?_)
  have hP : va_P D vwCl (gW g0 g1 g2 cA 0 Mb T) H := hP
  have hD : va_D (va_A (gW g0 g1 g2 cA zs Mb T) sz) (gW g0 g1 g2 cA 0 Mb T) := hD
  exact w_vret () hx hb hr hlk hP hD hS (trivial) dX3_clear_5

set_option maxHeartbeats 4000000 in
set_option maxRecDepth 100000 in
theorem k3_add (l : Launch) (D : va_G) (cA : ClassId) (g0 g1 g2 zs : Nat) (Mb T : Nat → Nat) (sz x : Nat) (hz : zs < 60) : Met l yX3_add wsX3_add ({ frames := 0, cells := 0, slots := 0, locals := 0 }) (wPc D (gW g0 g1 g2 cA zs Mb T) [(cA, .int)] sz [.ref g0, .int (nI x)]) (va_Qv (fun _ : Unit => True) (wB D (gW g0 g1 g2 cA zs Mb T) sz (fun _ => gW g0 g1 g2 cA (zs + 1) (va_up Mb zs x) T)) (va_A (gW g0 g1 g2 cA zs Mb T) sz)) 0 0 (va_A (gW g0 g1 g2 cA zs Mb T) sz) := by
  refine w_head (C := RX3) (cc := cX3_add) (maxL := 2) (ret := none) [(0, .ref g0), (1, .int (nI x))] (by decide) rfl rfl (Nat.le_of_ble_eq_true rfl) rfl ?_
  intro p e s mi below meth cd hx hb hr hlk hml hown hin hts hP hD hS hA hK ls hl
  have hiX30 : ∀ w ∈ wsX30, w ∈ wsX3_add := fun w h => List.mem_cons_of_mem _ (List.mem_append_right _ h)
  have f0 := hts (.fieldLink RX3 9 "StaffHeads$Signs" "bearers" "[I") (List.mem_of_getElem? (i := 1) rfl)
  have f1 := hts (.fieldLink RX3 18 "StaffHeads$Signs" "size" "I") (List.mem_of_getElem? (i := 2) rfl)
  refine lv_aload_n hx hb dX3_add_0 rfl (lv_at hl 0 rfl) ?_
  refine va_get (D := D) (ci := 3) (v := .ref g1) (C := RX3) (T := TX3) (N := 3) hx hb hts hiX30 hown hK.1 hP 0 rfl rfl 0 (by decide) f0 (fun _ h9 => h9) rfl dX3_add_1 ?_
  refine lv_aload_n hx hb dX3_add_4 rfl (lv_at hl 0 rfl) ?_
  refine va_get (D := D) (ci := 3) (v := .int (nI zs)) (C := RX3) (T := TX3) (N := 3) hx hb hts hiX30 hown hK.1 hP 0 rfl rfl 1 (by decide) f1 (fun _ h9 => h9) rfl dX3_add_5 ?_
  refine lv_iload_n hx hb dX3_add_8 rfl (lv_at hl 1 rfl) ?_
  refine x_iastN hx hb hK hP hD hS 1 0 rfl rfl (k := zs) (by omega) (by decide) dX3_add_9 (fun H locs hP hD hS => ?_)
  have hP : va_P D vwCl (gW g0 g1 g2 cA zs (va_up Mb zs x) T) H := hP
  have hD : va_D (va_A (gW g0 g1 g2 cA zs Mb T) sz) (gW g0 g1 g2 cA zs (va_up Mb zs x) T) := hD
  refine lv_aload_n hx hb dX3_add_10 rfl (lv_at hl 0 rfl) ?_
  refine lv_dup hx hb dX3_add_11 rfl ?_
  refine va_get (D := D) (ci := 3) (v := .int (nI zs)) (C := RX3) (T := TX3) (N := 3) hx hb hts hiX30 hown hK.1 hP 0 rfl rfl 1 (by decide) f1 (fun _ h9 => h9) rfl dX3_add_12 ?_
  refine lv_iconst (v := 1) hx hb dX3_add_15 (by decide) ?_
  refine lv_iadd hx hb dX3_add_16 ?_
  refine x_tp (y := nI (zs + 1)) (nI_1 zs) ?_
  refine va_put (D := D) (ci := 3) (v := .int (nI (zs + 1))) (ty := .int) (C := RX3) (T := TX3) (N := 3) hx hb hts hiX30 tyX3 tyX3_ok nmX3 hown hK.1 hP hD hS 0 rfl rfl 1 (by decide) f1 (fun _ h9 => h9) rfl (by decide +kernel) rfl rfl (Nat.le_of_ble_eq_true rfl) dX3_add_17 (fun H locs hP hD hS => ?_)
  have hP : va_P D vwCl (gW g0 g1 g2 cA (zs + 1) (va_up Mb zs x) T) H := hP
  have hD : va_D (va_A (gW g0 g1 g2 cA zs Mb T) sz) (gW g0 g1 g2 cA (zs + 1) (va_up Mb zs x) T) := hD
  exact w_vret () hx hb hr hlk hP hD hS (trivial) dX3_add_20

set_option maxHeartbeats 4000000 in
set_option maxRecDepth 100000 in
theorem k7_fill (l : Launch) (D : va_G) (cA : ClassId) (q0 N : Nat) (f : Nat → Int32) (x : Int32) (sz : Nat) (hN : N < 2 ^ 31) : Met l yJ7_fill_53178 wsJ7_fill_53178 ({ frames := 0, cells := 0, slots := 0, locals := 0 }) (wPc D (aW q0 cA N f) [(cA, .int)] sz [.ref q0, .int x]) (va_Qv (fun _ : Unit => True) (wB D (aW q0 cA N f) sz (fun _ => aW q0 cA N (fIllI f x N))) (va_A (aW q0 cA N f) sz)) 0 0 (va_A (aW q0 cA N f) sz) := by
  refine w_head (C := RJ7) (cc := cJ7_fill_53178) (maxL := 4) (ret := none) [(0, .ref q0), (1, .int x)] (by decide) rfl rfl (Nat.le_of_ble_eq_true rfl) rfl ?_
  intro p e s mi below meth cd hx hb hr hlk hml hown hin hts hP hD hS hA hK ls hl
  refine lv_iconst (v := 0) hx hb dJ7_fill_53178_0 (by decide) ?_
  refine x_tp (y := nI 0) nI_0.symm ?_
  refine lv_istore_n (lv' := [(2, .int (nI 0)), (0, .ref q0), (1, .int x)]) hx hb dJ7_fill_53178_1 rfl hl (by decide) rfl (fun ls hl => ?_)
  refine lv_aload_n hx hb dJ7_fill_53178_2 rfl (lv_at hl 1 rfl) ?_
  refine va_alen hx hb hK.1 hP 0 0 rfl rfl (v := nI N) rfl dJ7_fill_53178_3 ?_
  refine lv_istore_n (lv' := [(3, .int (nI N)), (2, .int (nI 0)), (0, .ref q0), (1, .int x)]) hx hb dJ7_fill_53178_4 rfl hl (by decide) rfl (fun ls hl => ?_)
  refine lpW (G := fun ls H locs => W p _ e _ s mi _ below meth cd H locs _ _ _ (F0 mi 5 ls [])) 4 N (fun k (_ : Unit) => [(0, .ref q0), (1, .int x), (2, .int (nI k)), (3, .int (nI N))]) (fun k (_ : Unit) => aW q0 cA N (fIllI f x k)) (fun _ _ => True) ?_ 0 () (Nat.zero_le _) trivial (lv_sub hl [2, 3, 1, 0] rfl) hP hD hS
  clear hl hP hD hS
  intro k gu hk hkI ls H locs hl hP hD hS ihk
  refine lv_iload_n hx hb dJ7_fill_53178_5 rfl (lv_at hl 2 rfl) ?_
  refine lv_iload_n hx hb dJ7_fill_53178_6 rfl (lv_at hl 3 rfl) ?_
  refine x_nge (tgt := 20) hx hb dJ7_fill_53178_7 (by decide) (by omega) (by omega) (fun c_7 => ?_) (fun c_7 => ?_)
  · obtain rfl : N = k := by omega
    exact w_vret () hx hb hr hlk hP hD hS (trivial) dJ7_fill_53178_20
  · refine lv_aload_n hx hb dJ7_fill_53178_10 rfl (lv_at hl 0 rfl) ?_
    refine lv_iload_n hx hb dJ7_fill_53178_11 rfl (lv_at hl 2 rfl) ?_
    refine lv_iload_n hx hb dJ7_fill_53178_12 rfl (lv_at hl 1 rfl) ?_
    refine x_iast hx hb hK hP hD hS 0 0 rfl rfl (k := k) (by omega) hN dJ7_fill_53178_13 (fun H locs hP hD hS => ?_)
    have hP : va_P D vwCl (aW q0 cA N (upd (fIllI f x k) k x)) H := hP
    have hD : va_D (va_A (aW q0 cA N f) sz) (aW q0 cA N (upd (fIllI f x k) k x)) := hD
    have hP : va_P D vwCl (aW q0 cA N (fIllI f x (k + 1))) H := hP
    have hD : va_D (va_A (aW q0 cA N f) sz) (aW q0 cA N (fIllI f x (k + 1))) := hD
    refine lv_iinc (v := nI (k + 1)) (lv' := [(2, .int (nI (k + 1))), (0, .ref q0), (1, .int x), (3, .int (nI N))]) hx hb dJ7_fill_53178_14 hl (k := 2) rfl (x_inc k) (by decide) rfl (fun ls hl => ?_)
    refine lv_goto (tgt := 5) hx hb dJ7_fill_53178_17 (by decide) ?_
    exact ihk (by omega) () _ _ _ trivial (lv_sub hl [1, 2, 0, 3] rfl) hP hD hS

set_option maxHeartbeats 4000000 in
set_option maxRecDepth 100000 in
theorem k7_fillP (l : Launch) (D : va_G) (cA : ClassId) (q0 N : Nat) (f : Nat → Int32) (x : Int32) (sz : Nat) (hN : N < 2 ^ 31) : Met l yJ7_fill_53178 wsJ7_fill_53178 ({ frames := 0, cells := 0, slots := 0, locals := 0 }) (wPc D (aW q0 cA N f) [(cA, .int)] sz [.ref q0, .int x]) (va_Qv (fun F2 : Nat → Int32 => ∀ j, j < N → F2 j = x) (wB D (aW q0 cA N f) sz (fun F2 => aW q0 cA N F2)) (va_A (aW q0 cA N f) sz)) 0 0 (va_A (aW q0 cA N f) sz) := by
  refine w_head (C := RJ7) (cc := cJ7_fill_53178) (maxL := 4) (ret := none) [(0, .ref q0), (1, .int x)] (by decide) rfl rfl (Nat.le_of_ble_eq_true rfl) rfl ?_
  intro p e s mi below meth cd hx hb hr hlk hml hown hin hts hP hD hS hA hK ls hl
  refine lv_iconst (v := 0) hx hb dJ7_fill_53178_0 (by decide) ?_
  refine x_tp (y := nI 0) nI_0.symm ?_
  refine lv_istore_n (lv' := [(2, .int (nI 0)), (0, .ref q0), (1, .int x)]) hx hb dJ7_fill_53178_1 rfl hl (by decide) rfl (fun ls hl => ?_)
  refine lv_aload_n hx hb dJ7_fill_53178_2 rfl (lv_at hl 1 rfl) ?_
  refine va_alen hx hb hK.1 hP 0 0 rfl rfl (v := nI N) rfl dJ7_fill_53178_3 ?_
  refine lv_istore_n (lv' := [(3, .int (nI N)), (2, .int (nI 0)), (0, .ref q0), (1, .int x)]) hx hb dJ7_fill_53178_4 rfl hl (by decide) rfl (fun ls hl => ?_)
  refine lpW (G := fun ls H locs => W p _ e _ s mi _ below meth cd H locs _ _ _ (F0 mi 5 ls [])) 4 N (fun k (_ : Unit) => [(0, .ref q0), (1, .int x), (2, .int (nI k)), (3, .int (nI N))]) (fun k (_ : Unit) => aW q0 cA N (fIllI (f) (x) k)) (fun _ _ => True) ?_ 0 () (Nat.zero_le _) trivial (lv_sub hl [2, 3, 1, 0] rfl) hP hD hS
  clear hl hP hD hS
  intro k gu hk hkI ls H locs hl hP hD hS ihk
  refine lv_iload_n hx hb dJ7_fill_53178_5 rfl (lv_at hl 2 rfl) ?_
  refine lv_iload_n hx hb dJ7_fill_53178_6 rfl (lv_at hl 3 rfl) ?_
  refine x_nge (tgt := 20) hx hb dJ7_fill_53178_7 (by decide) (by omega) (by omega) (fun c_7 => ?_) (fun c_7 => ?_)
  · obtain rfl : N = k := by omega
    exact w_vret (S0 := Nat → Int32) (w1 := fun F2 => aW q0 cA N F2) (fIllI f x N) hx hb hr hlk hP hD hS (fun j hj => fIllI_all f x N j hj) dJ7_fill_53178_20
  · refine lv_aload_n hx hb dJ7_fill_53178_10 rfl (lv_at hl 0 rfl) ?_
    refine lv_iload_n hx hb dJ7_fill_53178_11 rfl (lv_at hl 2 rfl) ?_
    refine lv_iload_n hx hb dJ7_fill_53178_12 rfl (lv_at hl 1 rfl) ?_
    refine x_iast hx hb hK hP hD hS 0 0 rfl rfl (k := k) (by omega) hN dJ7_fill_53178_13 (fun H locs hP hD hS => ?_)
    have hP : va_P D vwCl (aW q0 cA N (upd (fIllI (f) (x) k) k x)) H := hP
    have hD : va_D (va_A (aW q0 cA N f) sz) (aW q0 cA N (upd (fIllI (f) (x) k) k x)) := hD
    have hP : va_P D vwCl (aW q0 cA N (fIllI (f) (x) (k + 1))) H := hP
    have hD : va_D (va_A (aW q0 cA N f) sz) (aW q0 cA N (fIllI (f) (x) (k + 1))) := hD
    refine lv_iinc (v := nI (k + 1)) (lv' := [(2, .int (nI (k + 1))), (0, .ref q0), (1, .int x), (3, .int (nI N))]) hx hb dJ7_fill_53178_14 hl (k := 2) rfl (x_inc k) (by decide) rfl (fun ls hl => ?_)
    refine lv_goto (tgt := 5) hx hb dJ7_fill_53178_17 (by decide) ?_
    exact ihk (by omega) () _ _ _ trivial (lv_sub hl [1, 2, 0, 3] rfl) hP hD hS

set_option maxHeartbeats 4000000 in
set_option maxRecDepth 100000 in
theorem k7_fillN (l : Launch) (D : va_G) (cA : ClassId) (q0 N : Nat) (F : Nat → Nat) (x : Nat) (sz : Nat) (hN : N < 2 ^ 31) : Met l yJ7_fill_53178 wsJ7_fill_53178 ({ frames := 0, cells := 0, slots := 0, locals := 0 }) (wPc D (aW q0 cA N (fun j => nI (F j))) [(cA, .int)] sz [.ref q0, .int (nI x)]) (va_Qv (fun F2 : Nat → Nat => ∀ j, j < N → F2 j = x) (wB D (aW q0 cA N (fun j => nI (F j))) sz (fun F2 => aW q0 cA N (fun j => nI (F2 j)))) (va_A (aW q0 cA N (fun j => nI (F j))) sz)) 0 0 (va_A (aW q0 cA N (fun j => nI (F j))) sz) := by
  refine w_head (C := RJ7) (cc := cJ7_fill_53178) (maxL := 4) (ret := none) [(0, .ref q0), (1, .int (nI x))] (by decide) rfl rfl (Nat.le_of_ble_eq_true rfl) rfl ?_
  intro p e s mi below meth cd hx hb hr hlk hml hown hin hts hP hD hS hA hK ls hl
  refine lv_iconst (v := 0) hx hb dJ7_fill_53178_0 (by decide) ?_
  refine x_tp (y := nI 0) nI_0.symm ?_
  refine lv_istore_n (lv' := [(2, .int (nI 0)), (0, .ref q0), (1, .int (nI x))]) hx hb dJ7_fill_53178_1 rfl hl (by decide) rfl (fun ls hl => ?_)
  refine lv_aload_n hx hb dJ7_fill_53178_2 rfl (lv_at hl 1 rfl) ?_
  refine va_alen hx hb hK.1 hP 0 0 rfl rfl (v := nI N) rfl dJ7_fill_53178_3 ?_
  refine lv_istore_n (lv' := [(3, .int (nI N)), (2, .int (nI 0)), (0, .ref q0), (1, .int (nI x))]) hx hb dJ7_fill_53178_4 rfl hl (by decide) rfl (fun ls hl => ?_)
  refine lpW (G := fun ls H locs => W p _ e _ s mi _ below meth cd H locs _ _ _ (F0 mi 5 ls [])) 4 N (fun k (_ : Unit) => [(0, .ref q0), (1, .int (nI x)), (2, .int (nI k)), (3, .int (nI N))]) (fun k (_ : Unit) => aW q0 cA N (fIllI (fun j => nI (F j)) (nI x) k)) (fun _ _ => True) ?_ 0 () (Nat.zero_le _) trivial (lv_sub hl [2, 3, 1, 0] rfl) hP hD hS
  clear hl hP hD hS
  intro k gu hk hkI ls H locs hl hP hD hS ihk
  refine lv_iload_n hx hb dJ7_fill_53178_5 rfl (lv_at hl 2 rfl) ?_
  refine lv_iload_n hx hb dJ7_fill_53178_6 rfl (lv_at hl 3 rfl) ?_
  refine x_nge (tgt := 20) hx hb dJ7_fill_53178_7 (by decide) (by omega) (by omega) (fun c_7 => ?_) (fun c_7 => ?_)
  · obtain rfl : N = k := by omega
    rw [fIll_nI] at hP hD
    exact w_vret (S0 := Nat → Nat) (w1 := fun F2 => aW q0 cA N (fun j => nI (F2 j))) (fIll F x N) hx hb hr hlk hP hD hS (fun j hj => fIll_all F x N j hj) dJ7_fill_53178_20
  · refine lv_aload_n hx hb dJ7_fill_53178_10 rfl (lv_at hl 0 rfl) ?_
    refine lv_iload_n hx hb dJ7_fill_53178_11 rfl (lv_at hl 2 rfl) ?_
    refine lv_iload_n hx hb dJ7_fill_53178_12 rfl (lv_at hl 1 rfl) ?_
    refine x_iast hx hb hK hP hD hS 0 0 rfl rfl (k := k) (by omega) hN dJ7_fill_53178_13 (fun H locs hP hD hS => ?_)
    have hP : va_P D vwCl (aW q0 cA N (upd (fIllI (fun j => nI (F j)) (nI x) k) k (nI x))) H := hP
    have hD : va_D (va_A (aW q0 cA N (fun j => nI (F j))) sz) (aW q0 cA N (upd (fIllI (fun j => nI (F j)) (nI x) k) k (nI x))) := hD
    have hP : va_P D vwCl (aW q0 cA N (fIllI (fun j => nI (F j)) (nI x) (k + 1))) H := hP
    have hD : va_D (va_A (aW q0 cA N (fun j => nI (F j))) sz) (aW q0 cA N (fIllI (fun j => nI (F j)) (nI x) (k + 1))) := hD
    refine lv_iinc (v := nI (k + 1)) (lv' := [(2, .int (nI (k + 1))), (0, .ref q0), (1, .int (nI x)), (3, .int (nI N))]) hx hb dJ7_fill_53178_14 hl (k := 2) rfl (x_inc k) (by decide) rfl (fun ls hl => ?_)
    refine lv_goto (tgt := 5) hx hb dJ7_fill_53178_17 (by decide) ?_
    exact ihk (by omega) () _ _ _ trivial (lv_sub hl [1, 2, 0, 3] rfl) hP hD hS

set_option maxHeartbeats 4000000 in
set_option maxRecDepth 100000 in
theorem k3_outermost (l : Launch) (D : va_G) (cA : ClassId) (g0 g1 g2 zs : Nat) (Mb T : Nat → Nat) (q2 q3 : Nat) (sp : Nat → Int32) (C : Nat → Nat) (ev : Prop) [Decidable ev] (hz : zs ≤ 60) (hMb : ∀ i, Mb i < 60) (hC : ∀ j, C j < 61) : Met l yX3_outermost wsX3_outermost ({ frames := 0, cells := 0, slots := 0, locals := 0 }) (rPc D (gW g0 g1 g2 cA zs Mb T ++ aW q2 cA 60 sp ++ aW q3 cA 60 (fun j => nI (C j))) [(cA, .int)] [.ref g0, .int (bv ev), .ref q2, .ref q3]) (vp_Si (fun r => r = enc1 (oPick sp C Mb ev zs))) 0 0 (fun _ => False) := by
  refine r_head (C := RX3) (cc := cX3_outermost) (maxL := 7) (ret := (some .int)) [(0, .ref g0), (1, .int (bv ev)), (2, .ref q2), (3, .ref q3)] (by decide) rfl rfl (Nat.le_of_ble_eq_true rfl) rfl ?_
  intro p e s mi below meth cd hx hb hr hlk hml hown hts hP hK ls hl
  have hiX30 : ∀ w ∈ wsX30, w ∈ wsX3_outermost := fun w h => List.mem_cons_of_mem _ (List.mem_append_right _ h)
  have f0 := hts (.fieldLink RX3 18 "StaffHeads$Signs" "size" "I") (List.mem_of_getElem? (i := 1) rfl)
  have f1 := hts (.fieldLink RX3 9 "StaffHeads$Signs" "bearers" "[I") (List.mem_of_getElem? (i := 2) rfl)
  refine lv_iconst (v := (-1)) hx hb dX3_outermost_0 (by decide) ?_
  refine x_tp (y := enc1 (oPick sp C Mb ev 0)) rfl ?_
  refine lv_istore (lv' := [(4, .int (enc1 (oPick sp C Mb ev 0))), (0, .ref g0), (1, .int (bv ev)), (2, .ref q2), (3, .ref q3)]) hx hb dX3_outermost_1 hl (by decide) rfl (fun ls hl => ?_)
  refine lv_iconst (v := 0) hx hb dX3_outermost_3 (by decide) ?_
  refine x_tp (y := nI 0) nI_0.symm ?_
  refine lv_istore (lv' := [(5, .int (nI 0)), (4, .int (enc1 (oPick sp C Mb ev 0))), (0, .ref g0), (1, .int (bv ev)), (2, .ref q2), (3, .ref q3)]) hx hb dX3_outermost_4 hl (by decide) rfl (fun ls hl => ?_)
  refine lpR (G := fun ls => W p _ e _ s mi _ below meth cd _ _ _ _ _ (F0 mi 6 ls [])) 7 zs (fun i (_ : Unit) => [(0, .ref g0), (1, .int (bv ev)), (2, .ref q2), (3, .ref q3), (4, .int (enc1 (oPick sp C Mb ev i))), (5, .int (nI i))]) (fun _ _ => True) ?_ 0 () (Nat.zero_le _) trivial (lv_sub hl [2, 3, 4, 5, 1, 0] rfl)
  clear hl ls
  intro i gu hi hiI ls hl ihi
  refine lv_iload hx hb dX3_outermost_6 (lv_at hl 5 rfl) ?_
  refine lv_aload_n hx hb dX3_outermost_8 rfl (lv_at hl 0 rfl) ?_
  refine va_get (D := D) (ci := 3) (v := .int (nI zs)) (C := RX3) (T := TX3) (N := 3) hx hb hts hiX30 hown hK.1 hP 0 rfl rfl 1 (by decide) f0 (fun _ h9 => h9) rfl dX3_outermost_9 ?_
  refine x_nge (tgt := 75) hx hb dX3_outermost_12 (by decide) (by omega) (by omega) (fun c_12 => ?_) (fun c_12 => ?_)
  · obtain rfl : zs = i := by omega
    refine lv_iload hx hb dX3_outermost_75 (lv_at hl 4 rfl) ?_
    exact r_iret hx hb hr hlk (rfl) dX3_outermost_77
  · have hMi := hMb i
    cases ho : oPick sp C Mb ev i with
    | none =>
      have hl := lv_cast (l' := [(0, .ref g0), (1, .int (bv ev)), (2, .ref q2), (3, .ref q3), (4, .int (-1)), (5, .int (nI i))]) hl (by rw [show enc1 (oPick sp C Mb ev i) = (-1) from (by rw [ho]; rfl)])
      refine lv_aload_n hx hb dX3_outermost_15 rfl (lv_at hl 0 rfl) ?_
      refine va_get (D := D) (ci := 3) (v := .ref g1) (C := RX3) (T := TX3) (N := 3) hx hb hts hiX30 hown hK.1 hP 0 rfl rfl 0 (by decide) f1 (fun _ h9 => h9) rfl dX3_outermost_16 ?_
      refine lv_iload hx hb dX3_outermost_19 (lv_at hl 5 rfl) ?_
      refine x_iald hx hb hK hP 1 0 rfl rfl (k := i) (by omega) (by decide) dX3_outermost_21 ?_
      refine lv_istore (lv' := [(6, .int (nI (Mb i))), (0, .ref g0), (1, .int (bv ev)), (2, .ref q2), (3, .ref q3), (4, .int (-1)), (5, .int (nI i))]) hx hb dX3_outermost_22 hl (by decide) rfl (fun ls hl => ?_)
      refine lv_aload_n hx hb dX3_outermost_24 rfl (lv_at hl 4 rfl) ?_
      refine lv_iload hx hb dX3_outermost_25 (lv_at hl 0 rfl) ?_
      refine x_iald hx hb hK hP 4 0 rfl rfl (k := (Mb i)) (by omega) (by decide) dX3_outermost_27 ?_
      refine lv_if_ne (tgt := 69) hx hb dX3_outermost_28 (by decide) (fun c_28 => ?_) (fun c_28 => ?_)
      · have c_28 : ¬ C (Mb i) = 0 := fun h => c_28 (by rw [h]; rfl)
        have hl := lv_cast (l' := [(6, .int (nI (Mb i))), (0, .ref g0), (1, .int (bv ev)), (2, .ref q2), (3, .ref q3), (4, .int (enc1 (oPick sp C Mb ev (i + 1)))), (5, .int (nI i))]) hl (by rw [show (-1) = enc1 (oPick sp C Mb ev (i + 1)) from (by rw [oPick, ho, if_neg (fun h => c_28 h.1)]; rfl)])
        refine lv_iinc (v := nI (i + 1)) (lv' := [(5, .int (nI (i + 1))), (6, .int (nI (Mb i))), (0, .ref g0), (1, .int (bv ev)), (2, .ref q2), (3, .ref q3), (4, .int (enc1 (oPick sp C Mb ev (i + 1))))]) hx hb dX3_outermost_69 hl (k := 6) rfl (x_inc i) (by decide) rfl (fun ls hl => ?_)
        refine lv_goto (tgt := 6) hx hb dX3_outermost_72 (by decide) ?_
        exact ihi (by omega) () _ trivial (lv_sub hl [2, 3, 4, 5, 6, 0] rfl)
      · have c_28 : C (Mb i) = 0 := (nI_eq (b := 0) (by have := hC (Mb i); omega) (by decide)).mp c_28
        refine lv_iload hx hb dX3_outermost_31 (lv_at hl 5 rfl) ?_
        refine lv_if_lt (tgt := 65) hx hb dX3_outermost_33 (by decide) (fun c_33 => ?_) (fun c_33 => ?_)
        · refine lv_iload hx hb dX3_outermost_65 (lv_at hl 0 rfl) ?_
          refine x_tp (y := enc1 (oPick sp C Mb ev (i + 1))) (by rw [oPick, ho, if_pos ⟨c_28, rfl⟩]; rfl) ?_
          refine lv_istore (lv' := [(4, .int (enc1 (oPick sp C Mb ev (i + 1)))), (6, .int (nI (Mb i))), (0, .ref g0), (1, .int (bv ev)), (2, .ref q2), (3, .ref q3), (5, .int (nI i))]) hx hb dX3_outermost_67 hl (by decide) rfl (fun ls hl => ?_)
          refine lv_iinc (v := nI (i + 1)) (lv' := [(5, .int (nI (i + 1))), (4, .int (enc1 (oPick sp C Mb ev (i + 1)))), (6, .int (nI (Mb i))), (0, .ref g0), (1, .int (bv ev)), (2, .ref q2), (3, .ref q3)]) hx hb dX3_outermost_69 hl (k := 6) rfl (x_inc i) (by decide) rfl (fun ls hl => ?_)
          refine lv_goto (tgt := 6) hx hb dX3_outermost_72 (by decide) ?_
          exact ihi (by omega) () _ trivial (lv_sub hl [3, 4, 5, 6, 1, 0] rfl)
        · exact absurd (by decide) c_33
    | some j =>
      have hj : j < 60 := by obtain ⟨i0, h1, h2⟩ := oPick_lt ho; rw [h2]; exact hMb i0
      have hl := lv_cast (l' := [(0, .ref g0), (1, .int (bv ev)), (2, .ref q2), (3, .ref q3), (4, .int (nI j)), (5, .int (nI i))]) hl (by rw [show enc1 (oPick sp C Mb ev i) = nI j from (by rw [ho]; rfl)])
      refine lv_aload_n hx hb dX3_outermost_15 rfl (lv_at hl 0 rfl) ?_
      refine va_get (D := D) (ci := 3) (v := .ref g1) (C := RX3) (T := TX3) (N := 3) hx hb hts hiX30 hown hK.1 hP 0 rfl rfl 0 (by decide) f1 (fun _ h9 => h9) rfl dX3_outermost_16 ?_
      refine lv_iload hx hb dX3_outermost_19 (lv_at hl 5 rfl) ?_
      refine x_iald hx hb hK hP 1 0 rfl rfl (k := i) (by omega) (by decide) dX3_outermost_21 ?_
      refine lv_istore (lv' := [(6, .int (nI (Mb i))), (0, .ref g0), (1, .int (bv ev)), (2, .ref q2), (3, .ref q3), (4, .int (nI j)), (5, .int (nI i))]) hx hb dX3_outermost_22 hl (by decide) rfl (fun ls hl => ?_)
      refine lv_aload_n hx hb dX3_outermost_24 rfl (lv_at hl 4 rfl) ?_
      refine lv_iload hx hb dX3_outermost_25 (lv_at hl 0 rfl) ?_
      refine x_iald hx hb hK hP 4 0 rfl rfl (k := (Mb i)) (by omega) (by decide) dX3_outermost_27 ?_
      refine lv_if_ne (tgt := 69) hx hb dX3_outermost_28 (by decide) (fun c_28 => ?_) (fun c_28 => ?_)
      · have c_28 : ¬ C (Mb i) = 0 := fun h => c_28 (by rw [h]; rfl)
        have hl := lv_cast (l' := [(6, .int (nI (Mb i))), (0, .ref g0), (1, .int (bv ev)), (2, .ref q2), (3, .ref q3), (4, .int (enc1 (oPick sp C Mb ev (i + 1)))), (5, .int (nI i))]) hl (by rw [show nI j = enc1 (oPick sp C Mb ev (i + 1)) from (by rw [oPick, ho, if_neg (fun h => c_28 h.1)]; rfl)])
        refine lv_iinc (v := nI (i + 1)) (lv' := [(5, .int (nI (i + 1))), (6, .int (nI (Mb i))), (0, .ref g0), (1, .int (bv ev)), (2, .ref q2), (3, .ref q3), (4, .int (enc1 (oPick sp C Mb ev (i + 1))))]) hx hb dX3_outermost_69 hl (k := 6) rfl (x_inc i) (by decide) rfl (fun ls hl => ?_)
        refine lv_goto (tgt := 6) hx hb dX3_outermost_72 (by decide) ?_
        exact ihi (by omega) () _ trivial (lv_sub hl [2, 3, 4, 5, 6, 0] rfl)
      · have c_28 : C (Mb i) = 0 := (nI_eq (b := 0) (by have := hC (Mb i); omega) (by decide)).mp c_28
        refine lv_iload hx hb dX3_outermost_31 (lv_at hl 5 rfl) ?_
        refine lv_if_lt (tgt := 65) hx hb dX3_outermost_33 (by decide) (fun c_33 => ?_) (fun c_33 => ?_)
        · exact absurd c_33 (enc1_neg hj)
        · refine lv_iload_n hx hb dX3_outermost_36 rfl (lv_at hl 2 rfl) ?_
          refine x_ifeq (tgt := 54) hx hb dX3_outermost_37 (by decide) (fun (c_37 : ¬ (ev)) => ?_) (fun (c_37 : ev) => ?_)
          · refine lv_aload_n hx hb dX3_outermost_54 rfl (lv_at hl 3 rfl) ?_
            refine lv_iload hx hb dX3_outermost_55 (lv_at hl 0 rfl) ?_
            refine x_iald hx hb hK hP 3 0 rfl rfl (k := (Mb i)) (by omega) (by decide) dX3_outermost_57 ?_
            refine lv_aload_n hx hb dX3_outermost_58 rfl (lv_at hl 3 rfl) ?_
            refine lv_iload hx hb dX3_outermost_59 (lv_at hl 5 rfl) ?_
            refine x_iald hx hb hK hP 3 0 rfl rfl (k := j) (by omega) (by decide) dX3_outermost_61 ?_
            refine x_ige (tgt := 69) hx hb dX3_outermost_62 (by decide) (fun c_62 => ?_) (fun c_62 => ?_)
            · have hl := lv_cast (l' := [(6, .int (nI (Mb i))), (0, .ref g0), (1, .int (bv ev)), (2, .ref q2), (3, .ref q3), (4, .int (enc1 (oPick sp C Mb ev (i + 1)))), (5, .int (nI i))]) hl (by rw [show nI j = enc1 (oPick sp C Mb ev (i + 1)) from (by rw [oPick, ho, if_neg (fun h => c_62 ((rBet_o c_37).mp h.2))]; rfl)])
              refine lv_iinc (v := nI (i + 1)) (lv' := [(5, .int (nI (i + 1))), (6, .int (nI (Mb i))), (0, .ref g0), (1, .int (bv ev)), (2, .ref q2), (3, .ref q3), (4, .int (enc1 (oPick sp C Mb ev (i + 1))))]) hx hb dX3_outermost_69 hl (k := 6) rfl (x_inc i) (by decide) rfl (fun ls hl => ?_)
              refine lv_goto (tgt := 6) hx hb dX3_outermost_72 (by decide) ?_
              exact ihi (by omega) () _ trivial (lv_sub hl [2, 3, 4, 5, 6, 0] rfl)
            · refine lv_iload hx hb dX3_outermost_65 (lv_at hl 0 rfl) ?_
              refine x_tp (y := enc1 (oPick sp C Mb ev (i + 1))) (by rw [oPick, ho, if_pos ⟨c_28, (rBet_o c_37).mpr c_62⟩]; rfl) ?_
              refine lv_istore (lv' := [(4, .int (enc1 (oPick sp C Mb ev (i + 1)))), (6, .int (nI (Mb i))), (0, .ref g0), (1, .int (bv ev)), (2, .ref q2), (3, .ref q3), (5, .int (nI i))]) hx hb dX3_outermost_67 hl (by decide) rfl (fun ls hl => ?_)
              refine lv_iinc (v := nI (i + 1)) (lv' := [(5, .int (nI (i + 1))), (4, .int (enc1 (oPick sp C Mb ev (i + 1)))), (6, .int (nI (Mb i))), (0, .ref g0), (1, .int (bv ev)), (2, .ref q2), (3, .ref q3)]) hx hb dX3_outermost_69 hl (k := 6) rfl (x_inc i) (by decide) rfl (fun ls hl => ?_)
              refine lv_goto (tgt := 6) hx hb dX3_outermost_72 (by decide) ?_
              exact ihi (by omega) () _ trivial (lv_sub hl [3, 4, 5, 6, 1, 0] rfl)
          · refine lv_aload_n hx hb dX3_outermost_40 rfl (lv_at hl 3 rfl) ?_
            refine lv_iload hx hb dX3_outermost_41 (lv_at hl 0 rfl) ?_
            refine x_iald hx hb hK hP 3 0 rfl rfl (k := (Mb i)) (by omega) (by decide) dX3_outermost_43 ?_
            refine lv_aload_n hx hb dX3_outermost_44 rfl (lv_at hl 3 rfl) ?_
            refine lv_iload hx hb dX3_outermost_45 (lv_at hl 5 rfl) ?_
            refine x_iald hx hb hK hP 3 0 rfl rfl (k := j) (by omega) (by decide) dX3_outermost_47 ?_
            refine x_ile (tgt := 69) hx hb dX3_outermost_48 (by decide) (fun c_48 => ?_) (fun c_48 => ?_)
            · have hl := lv_cast (l' := [(6, .int (nI (Mb i))), (0, .ref g0), (1, .int (bv ev)), (2, .ref q2), (3, .ref q3), (4, .int (enc1 (oPick sp C Mb ev (i + 1)))), (5, .int (nI i))]) hl (by rw [show nI j = enc1 (oPick sp C Mb ev (i + 1)) from (by rw [oPick, ho, if_neg (fun h => c_48 ((rBet_e c_37).mp h.2))]; rfl)])
              refine lv_iinc (v := nI (i + 1)) (lv' := [(5, .int (nI (i + 1))), (6, .int (nI (Mb i))), (0, .ref g0), (1, .int (bv ev)), (2, .ref q2), (3, .ref q3), (4, .int (enc1 (oPick sp C Mb ev (i + 1))))]) hx hb dX3_outermost_69 hl (k := 6) rfl (x_inc i) (by decide) rfl (fun ls hl => ?_)
              refine lv_goto (tgt := 6) hx hb dX3_outermost_72 (by decide) ?_
              exact ihi (by omega) () _ trivial (lv_sub hl [2, 3, 4, 5, 6, 0] rfl)
            · refine lv_goto (tgt := 65) hx hb dX3_outermost_51 (by decide) ?_
              refine lv_iload hx hb dX3_outermost_65 (lv_at hl 0 rfl) ?_
              refine x_tp (y := enc1 (oPick sp C Mb ev (i + 1))) (by rw [oPick, ho, if_pos ⟨c_28, (rBet_e c_37).mpr c_48⟩]; rfl) ?_
              refine lv_istore (lv' := [(4, .int (enc1 (oPick sp C Mb ev (i + 1)))), (6, .int (nI (Mb i))), (0, .ref g0), (1, .int (bv ev)), (2, .ref q2), (3, .ref q3), (5, .int (nI i))]) hx hb dX3_outermost_67 hl (by decide) rfl (fun ls hl => ?_)
              refine lv_iinc (v := nI (i + 1)) (lv' := [(5, .int (nI (i + 1))), (4, .int (enc1 (oPick sp C Mb ev (i + 1)))), (6, .int (nI (Mb i))), (0, .ref g0), (1, .int (bv ev)), (2, .ref q2), (3, .ref q3)]) hx hb dX3_outermost_69 hl (k := 6) rfl (x_inc i) (by decide) rfl (fun ls hl => ?_)
              refine lv_goto (tgt := 6) hx hb dX3_outermost_72 (by decide) ?_
              exact ihi (by omega) () _ trivial (lv_sub hl [3, 4, 5, 6, 1, 0] rfl)

set_option maxHeartbeats 4000000 in
set_option maxRecDepth 100000 in
theorem k3_columnFor (l : Launch) (D : va_G) (cA : ClassId) (g0 g1 g2 zs : Nat) (Mb T : Nat → Nat) (q1 q2 q3 : Nat) (si sp : Nat → Int32) (C : Nat → Nat) (sz x tu r0 : Nat) (hx0 : x < 60) (htu : tu < 100) (hz : zs ≤ 60) (hMb : ∀ i, Mb i < 60) (hC : ∀ j, C j < 61) (hT : ∀ j, j < 61 → T j ≤ tu) (hr0 : cColFor sp si C Mb zs x tu T r0) : Met l yX3_columnFor wsX3_columnFor ({ frames := 1, cells := 0, slots := 0, locals := 21 }) (wPc D (gW g0 g1 g2 cA zs Mb T ++ aW q1 cA 60 si ++ aW q2 cA 60 sp ++ aW q3 cA 60 (fun j => nI (C j))) [(cA, .int)] sz [.ref g0, .int (nI x), .int (nI tu), .ref q1, .ref q2, .ref q3]) (va_Qi (fun (r : Int32) (X : Nat → Nat) => r = nI r0 ∧ ∀ j, j < 61 → X j ≤ tu) (wB D (gW g0 g1 g2 cA zs Mb T ++ aW q1 cA 60 si ++ aW q2 cA 60 sp ++ aW q3 cA 60 (fun j => nI (C j))) sz (fun X => gW g0 g1 g2 cA zs Mb X ++ aW q1 cA 60 si ++ aW q2 cA 60 sp ++ aW q3 cA 60 (fun j => nI (C j)))) (va_A (gW g0 g1 g2 cA zs Mb T ++ aW q1 cA 60 si ++ aW q2 cA 60 sp ++ aW q3 cA 60 (fun j => nI (C j))) sz)) 0 0 (va_A (gW g0 g1 g2 cA zs Mb T ++ aW q1 cA 60 si ++ aW q2 cA 60 sp ++ aW q3 cA 60 (fun j => nI (C j))) sz) := by
  refine w_head (C := RX3) (cc := cX3_columnFor) (maxL := 8) (ret := (some .int)) [(0, .ref g0), (1, .int (nI x)), (2, .int (nI tu)), (3, .ref q1), (4, .ref q2), (5, .ref q3)] (by decide) rfl rfl (Nat.le_of_ble_eq_true rfl) rfl ?_
  intro p e s mi below meth cd hx hb hr hlk hml hown hin hts hP hD hS hA hK ls hl
  have hiX30 : ∀ w ∈ wsX30, w ∈ wsX3_columnFor := fun w h => List.mem_cons_of_mem _ (List.mem_append_right _ h)
  have f0 := hts (.fieldLink RX3 18 "StaffHeads$Signs" "size" "I") (List.mem_of_getElem? (i := 1) rfl)
  have f1 := hts (.fieldLink RX3 15 "StaffHeads$Signs" "takenInTurn" "[I") (List.mem_of_getElem? (i := 7) rfl)
  have f2 := hts (.fieldLink RX3 9 "StaffHeads$Signs" "bearers" "[I") (List.mem_of_getElem? (i := 2) rfl)
  have f3 := hts (.methodLink RX3 42 Lib.Math.abs.name) (List.mem_of_getElem? (i := 3) rfl)
  have f4 := hts (.static Lib.Math.abs.name) (List.mem_of_getElem? (i := 4) rfl)
  have f5 := hts (.initialized "java/lang/Math") (List.mem_of_getElem? (i := 5) rfl)
  have f6 := hts (.code Lib.Math.abs.name Lib.Math.abs.code 1 (some .int)) (List.mem_of_getElem? (i := 6) rfl)
  refine lv_iconst (v := 0) hx hb dX3_columnFor_0 (by decide) ?_
  refine x_tp (y := nI 0) nI_0.symm ?_
  refine lv_istore (lv' := [(6, .int (nI 0)), (0, .ref g0), (1, .int (nI x)), (2, .int (nI tu)), (3, .ref q1), (4, .ref q2), (5, .ref q3)]) hx hb dX3_columnFor_1 hl (by decide) rfl (fun ls hl => ?_)
  refine lpW (G := fun ls H locs => W p _ e _ s mi _ below meth cd H locs _ _ _ (F0 mi 3 ls [])) 8 zs (fun i (_ : Unit) => [(0, .ref g0), (1, .int (nI x)), (2, .int (nI tu)), (3, .ref q1), (4, .ref q2), (5, .ref q3), (6, .int (nI i))]) (fun i (_ : Unit) => gW g0 g1 g2 cA zs Mb (rTk sp C Mb x tu T i) ++ aW q1 cA 60 si ++ aW q2 cA 60 sp ++ aW q3 cA 60 (fun j => nI (C j))) (fun i _ => ∀ y, y < i → ¬ cMat sp si C x (Mb y)) ?_ 0 () (Nat.zero_le _) (fun y h => absurd h (Nat.not_lt_zero y)) (lv_sub hl [1, 2, 3, 4, 5, 6, 0] rfl) hP hD hS
  clear hl hP hD hS
  intro i gu hi hiI ls H locs hl hP hD hS ihi
  refine lv_iload hx hb dX3_columnFor_3 (lv_at hl 6 rfl) ?_
  refine lv_aload_n hx hb dX3_columnFor_5 rfl (lv_at hl 0 rfl) ?_
  refine va_get (D := D) (ci := 3) (v := .int (nI zs)) (C := RX3) (T := TX3) (N := 3) hx hb hts hiX30 hown hK.1 hP 0 rfl rfl 1 (by decide) f0 (fun _ h9 => h9) rfl dX3_columnFor_6 ?_
  refine x_nge (tgt := 92) hx hb dX3_columnFor_9 (by decide) (by omega) (by omega) (fun c_9 => ?_) (fun c_9 => ?_)
  · obtain rfl : zs = i := by omega
    have hl : lv_has ls 8 [(0, .ref g0), (1, .int (nI x)), (2, .int (nI tu)), (3, .ref q1), (4, .ref q2), (5, .ref q3)] := lv_sub hl [0, 1, 2, 3, 4, 5] rfl
    obtain ⟨d, hd, hrd, hfr, hnf⟩ : ∃ d, d < 60 ∧ r0 = d + 1 ∧ (d < 59 → ¬ (rTk sp C Mb x tu T zs) (d + 1) = tu) ∧ ∀ k, k < d → (rTk sp C Mb x tu T zs) (k + 1) = tu := by
      rcases hr0 with ⟨k0, g1, g2, g3, g4⟩ | ⟨g1, g2⟩
      · exact absurd g2 (hiI k0 g1)
      · exact g2
    refine lv_iconst (v := 1) hx hb dX3_columnFor_92 (by decide) ?_
    refine x_tp (y := nI (0 + 1)) (show (1 : Int32) = nI (0 + 1) from rfl) ?_
    refine lv_istore (lv' := [(6, .int (nI (0 + 1))), (0, .ref g0), (1, .int (nI x)), (2, .int (nI tu)), (3, .ref q1), (4, .ref q2), (5, .ref q3)]) hx hb dX3_columnFor_93 hl (by decide) rfl (fun ls hl => ?_)
    refine lpR (G := fun ls => W p _ e _ s mi _ below meth cd _ _ _ _ _ (F0 mi 95 ls [])) 8 d (fun k (_ : Unit) => [(0, .ref g0), (1, .int (nI x)), (2, .int (nI tu)), (3, .ref q1), (4, .ref q2), (5, .ref q3), (6, .int (nI (k + 1)))]) (fun _ _ => True) ?_ 0 () (Nat.zero_le _) trivial (lv_sub hl [1, 2, 3, 4, 5, 6, 0] rfl)
    clear hl ls
    intro k gu hk hkI ls hl ihk
    refine lv_iload hx hb dX3_columnFor_95 (lv_at hl 6 rfl) ?_
    refine lv_bipush (v := 60) hx hb dX3_columnFor_97 (by decide) ?_
    refine x_tp (y := nI 60) (show (60 : Int32) = nI 60 from rfl) ?_
    refine x_nge (tgt := 119) hx hb dX3_columnFor_99 (by decide) (by omega) (by omega) (fun c_99 => ?_) (fun c_99 => ?_)
    · obtain rfl : d = k := by omega
      refine lv_iload hx hb dX3_columnFor_119 (lv_at hl 6 rfl) ?_
      exact w_iret (S0 := Nat → Nat) (w1 := (fun X => gW g0 g1 g2 cA zs Mb X ++ aW q1 cA 60 si ++ aW q2 cA 60 sp ++ aW q3 cA 60 (fun j => nI (C j)))) (rTk sp C Mb x tu T zs) hx hb hr hlk hP hD hS ⟨(by rw [hrd]), fun j hj => rTk_le hT _ j hj⟩ dX3_columnFor_121
    · refine lv_aload_n hx hb dX3_columnFor_102 rfl (lv_at hl 0 rfl) ?_
      refine va_get (D := D) (ci := 3) (v := .ref g2) (C := RX3) (T := TX3) (N := 3) hx hb hts hiX30 hown hK.1 hP 0 rfl rfl 2 (by decide) f1 (fun _ h9 => h9) rfl dX3_columnFor_103 ?_
      refine lv_iload hx hb dX3_columnFor_106 (lv_at hl 6 rfl) ?_
      refine x_iald hx hb hK hP 2 0 rfl rfl (k := (k + 1)) (by omega) (by decide) dX3_columnFor_108 ?_
      have hTl := rTk_le (sp := sp) (C := C) (Mb := Mb) (x := x) (tu := tu) hT zs (k + 1) (by omega)
      refine lv_iload_n hx hb dX3_columnFor_109 rfl (lv_at hl 2 rfl) ?_
      refine x_nne (tgt := 119) hx hb dX3_columnFor_110 (by decide) (by omega) (by omega) (fun c_110 => ?_) (fun c_110 => ?_)
      · obtain rfl : d = k := by
          rcases Nat.lt_or_ge k d with q | q
          · exact absurd (hnf k q) c_110
          · omega
        refine lv_iload hx hb dX3_columnFor_119 (lv_at hl 6 rfl) ?_
        exact w_iret (S0 := Nat → Nat) (w1 := (fun X => gW g0 g1 g2 cA zs Mb X ++ aW q1 cA 60 si ++ aW q2 cA 60 sp ++ aW q3 cA 60 (fun j => nI (C j)))) (rTk sp C Mb x tu T zs) hx hb hr hlk hP hD hS ⟨(by rw [hrd]), fun j hj => rTk_le hT _ j hj⟩ dX3_columnFor_121
      · have hkd : k < d := by
          rcases Nat.lt_or_ge k d with q | q
          · exact q
          · obtain rfl : d = k := by omega
            exact absurd c_110 (hfr (by omega))
        refine lv_iinc (v := nI (k + 1 + 1)) (lv' := [(6, .int (nI (k + 1 + 1))), (0, .ref g0), (1, .int (nI x)), (2, .int (nI tu)), (3, .ref q1), (4, .ref q2), (5, .ref q3)]) hx hb dX3_columnFor_113 hl (k := 6) rfl (x_inc (k + 1)) (by decide) rfl (fun ls hl => ?_)
        refine lv_goto (tgt := 95) hx hb dX3_columnFor_116 (by decide) ?_
        exact ihk (by omega) () _ trivial (lv_sub hl [1, 2, 3, 4, 5, 6, 0] rfl)
  · have hMi := hMb i
    have hCi := hC (Mb i)
    refine lv_aload_n hx hb dX3_columnFor_12 rfl (lv_at hl 0 rfl) ?_
    refine va_get (D := D) (ci := 3) (v := .ref g1) (C := RX3) (T := TX3) (N := 3) hx hb hts hiX30 hown hK.1 hP 0 rfl rfl 0 (by decide) f2 (fun _ h9 => h9) rfl dX3_columnFor_13 ?_
    refine lv_iload hx hb dX3_columnFor_16 (lv_at hl 6 rfl) ?_
    refine x_iald hx hb hK hP 1 0 rfl rfl (k := i) (by omega) (by decide) dX3_columnFor_18 ?_
    refine lv_istore (lv' := [(7, .int (nI (Mb i))), (0, .ref g0), (1, .int (nI x)), (2, .int (nI tu)), (3, .ref q1), (4, .ref q2), (5, .ref q3), (6, .int (nI i))]) hx hb dX3_columnFor_19 hl (by decide) rfl (fun ls hl => ?_)
    refine lv_aload hx hb dX3_columnFor_21 (lv_at hl 6 rfl) ?_
    refine lv_iload hx hb dX3_columnFor_23 (lv_at hl 0 rfl) ?_
    refine x_iald hx hb hK hP 5 0 rfl rfl (k := (Mb i)) (by omega) (by decide) dX3_columnFor_25 ?_
    refine x_cle (tgt := 57) hx hb dX3_columnFor_26 (by decide) (fun c_26 => ?_) (fun c_26 => ?_)
    · have hnm : ¬ cMat sp si C x (Mb i) := fun h => c_26 ((nI_pos0 (by omega)).mpr h.1)
      refine lv_aload hx hb dX3_columnFor_57 (lv_at hl 5 rfl) ?_
      refine lv_iload hx hb dX3_columnFor_59 (lv_at hl 0 rfl) ?_
      refine x_iald hx hb hK hP 4 0 rfl rfl (k := (Mb i)) (by omega) (by decide) dX3_columnFor_61 ?_
      refine lv_aload hx hb dX3_columnFor_62 (lv_at hl 5 rfl) ?_
      refine lv_iload_n hx hb dX3_columnFor_64 rfl (lv_at hl 2 rfl) ?_
      refine x_iald hx hb hK hP 4 0 rfl rfl (k := x) (by omega) (by decide) dX3_columnFor_65 ?_
      refine lv_isub hx hb dX3_columnFor_66 ?_
      refine va_mabs hx hb (hml.trans hl.1.symm) hown f3 f4 f5 f6 (Nat.le_of_ble_eq_true rfl) (Nat.le_of_ble_eq_true rfl) (Nat.zero_le _) (Nat.zero_le _) dX3_columnFor_67 ?_
      refine x_tp (y := absI (sp (Mb i) - sp x)) rfl ?_
      refine lv_bipush (v := 6) hx hb dX3_columnFor_70 (by decide) ?_
      refine x_ige (tgt := 86) hx hb dX3_columnFor_72 (by decide) (fun c_72 => ?_) (fun c_72 => ?_)
      · have hwe : gW g0 g1 g2 cA zs Mb (rTk sp C Mb x tu T i) ++ aW q1 cA 60 si ++ aW q2 cA 60 sp ++ aW q3 cA 60 (fun j => nI (C j)) = gW g0 g1 g2 cA zs Mb (rTk sp C Mb x tu T (i + 1)) ++ aW q1 cA 60 si ++ aW q2 cA 60 sp ++ aW q3 cA 60 (fun j => nI (C j)) := (by rw [show rTk sp C Mb x tu T (i + 1) = rTk sp C Mb x tu T i from if_neg c_72])
        rw [hwe] at hP hD
        refine lv_iinc (v := nI (i + 1)) (lv' := [(6, .int (nI (i + 1))), (7, .int (nI (Mb i))), (0, .ref g0), (1, .int (nI x)), (2, .int (nI tu)), (3, .ref q1), (4, .ref q2), (5, .ref q3)]) hx hb dX3_columnFor_86 hl (k := 7) rfl (x_inc i) (by decide) rfl (fun ls hl => ?_)
        refine lv_goto (tgt := 3) hx hb dX3_columnFor_89 (by decide) ?_
        exact ihi (by omega) () _ _ _ (lt_s hiI hnm) (lv_sub hl [2, 3, 4, 5, 6, 7, 0] rfl) hP hD hS
      · refine lv_aload_n hx hb dX3_columnFor_75 rfl (lv_at hl 1 rfl) ?_
        refine va_get (D := D) (ci := 3) (v := .ref g2) (C := RX3) (T := TX3) (N := 3) hx hb hts hiX30 hown hK.1 hP 0 rfl rfl 2 (by decide) f1 (fun _ h9 => h9) rfl dX3_columnFor_76 ?_
        refine lv_aload hx hb dX3_columnFor_79 (lv_at hl 6 rfl) ?_
        refine lv_iload hx hb dX3_columnFor_81 (lv_at hl 0 rfl) ?_
        refine x_iald hx hb hK hP 5 0 rfl rfl (k := (Mb i)) (by omega) (by decide) dX3_columnFor_83 ?_
        refine lv_iload_n hx hb dX3_columnFor_84 rfl (lv_at hl 3 rfl) ?_
        refine x_iastN hx hb hK hP hD hS 2 0 rfl rfl (k := (C (Mb i))) (by omega) (by decide) dX3_columnFor_85 (fun H locs hP hD hS => ?_)
        have hP : va_P D vwCl (gW g0 g1 g2 cA zs Mb (va_up (rTk sp C Mb x tu T i) (C (Mb i)) tu) ++ aW q1 cA 60 si ++ aW q2 cA 60 sp ++ aW q3 cA 60 (fun j => nI (C j))) H := hP
        have hD : va_D (va_A (gW g0 g1 g2 cA zs Mb T ++ aW q1 cA 60 si ++ aW q2 cA 60 sp ++ aW q3 cA 60 (fun j => nI (C j))) sz) (gW g0 g1 g2 cA zs Mb (va_up (rTk sp C Mb x tu T i) (C (Mb i)) tu) ++ aW q1 cA 60 si ++ aW q2 cA 60 sp ++ aW q3 cA 60 (fun j => nI (C j))) := hD
        have hwe : gW g0 g1 g2 cA zs Mb (va_up (rTk sp C Mb x tu T i) (C (Mb i)) tu) ++ aW q1 cA 60 si ++ aW q2 cA 60 sp ++ aW q3 cA 60 (fun j => nI (C j)) = gW g0 g1 g2 cA zs Mb (rTk sp C Mb x tu T (i + 1)) ++ aW q1 cA 60 si ++ aW q2 cA 60 sp ++ aW q3 cA 60 (fun j => nI (C j)) := (by rw [show rTk sp C Mb x tu T (i + 1) = va_up (rTk sp C Mb x tu T i) (C (Mb i)) tu from if_pos c_72])
        rw [hwe] at hP hD
        refine lv_iinc (v := nI (i + 1)) (lv' := [(6, .int (nI (i + 1))), (7, .int (nI (Mb i))), (0, .ref g0), (1, .int (nI x)), (2, .int (nI tu)), (3, .ref q1), (4, .ref q2), (5, .ref q3)]) hx hb dX3_columnFor_86 hl (k := 7) rfl (x_inc i) (by decide) rfl (fun ls hl => ?_)
        refine lv_goto (tgt := 3) hx hb dX3_columnFor_89 (by decide) ?_
        exact ihi (by omega) () _ _ _ (lt_s hiI hnm) (lv_sub hl [2, 3, 4, 5, 6, 7, 0] rfl) hP hD hS
    · have c_26 : 0 < C (Mb i) := (nI_pos0 (by omega)).mp c_26
      refine lv_aload hx hb dX3_columnFor_29 (lv_at hl 5 rfl) ?_
      refine lv_iload hx hb dX3_columnFor_31 (lv_at hl 0 rfl) ?_
      refine x_iald hx hb hK hP 4 0 rfl rfl (k := (Mb i)) (by omega) (by decide) dX3_columnFor_33 ?_
      refine lv_aload hx hb dX3_columnFor_34 (lv_at hl 5 rfl) ?_
      refine lv_iload_n hx hb dX3_columnFor_36 rfl (lv_at hl 2 rfl) ?_
      refine x_iald hx hb hK hP 4 0 rfl rfl (k := x) (by omega) (by decide) dX3_columnFor_37 ?_
      refine lv_icmp_ne (tgt := 57) hx hb dX3_columnFor_38 (by decide) (fun c_38 => ?_) (fun c_38 => ?_)
      · have hnm : ¬ cMat sp si C x (Mb i) := fun h => c_38 h.2.1
        refine lv_aload hx hb dX3_columnFor_57 (lv_at hl 5 rfl) ?_
        refine lv_iload hx hb dX3_columnFor_59 (lv_at hl 0 rfl) ?_
        refine x_iald hx hb hK hP 4 0 rfl rfl (k := (Mb i)) (by omega) (by decide) dX3_columnFor_61 ?_
        refine lv_aload hx hb dX3_columnFor_62 (lv_at hl 5 rfl) ?_
        refine lv_iload_n hx hb dX3_columnFor_64 rfl (lv_at hl 2 rfl) ?_
        refine x_iald hx hb hK hP 4 0 rfl rfl (k := x) (by omega) (by decide) dX3_columnFor_65 ?_
        refine lv_isub hx hb dX3_columnFor_66 ?_
        refine va_mabs hx hb (hml.trans hl.1.symm) hown f3 f4 f5 f6 (Nat.le_of_ble_eq_true rfl) (Nat.le_of_ble_eq_true rfl) (Nat.zero_le _) (Nat.zero_le _) dX3_columnFor_67 ?_
        refine x_tp (y := absI (sp (Mb i) - sp x)) rfl ?_
        refine lv_bipush (v := 6) hx hb dX3_columnFor_70 (by decide) ?_
        refine x_ige (tgt := 86) hx hb dX3_columnFor_72 (by decide) (fun c_72 => ?_) (fun c_72 => ?_)
        · have hwe : gW g0 g1 g2 cA zs Mb (rTk sp C Mb x tu T i) ++ aW q1 cA 60 si ++ aW q2 cA 60 sp ++ aW q3 cA 60 (fun j => nI (C j)) = gW g0 g1 g2 cA zs Mb (rTk sp C Mb x tu T (i + 1)) ++ aW q1 cA 60 si ++ aW q2 cA 60 sp ++ aW q3 cA 60 (fun j => nI (C j)) := (by rw [show rTk sp C Mb x tu T (i + 1) = rTk sp C Mb x tu T i from if_neg c_72])
          rw [hwe] at hP hD
          refine lv_iinc (v := nI (i + 1)) (lv' := [(6, .int (nI (i + 1))), (7, .int (nI (Mb i))), (0, .ref g0), (1, .int (nI x)), (2, .int (nI tu)), (3, .ref q1), (4, .ref q2), (5, .ref q3)]) hx hb dX3_columnFor_86 hl (k := 7) rfl (x_inc i) (by decide) rfl (fun ls hl => ?_)
          refine lv_goto (tgt := 3) hx hb dX3_columnFor_89 (by decide) ?_
          exact ihi (by omega) () _ _ _ (lt_s hiI hnm) (lv_sub hl [2, 3, 4, 5, 6, 7, 0] rfl) hP hD hS
        · refine lv_aload_n hx hb dX3_columnFor_75 rfl (lv_at hl 1 rfl) ?_
          refine va_get (D := D) (ci := 3) (v := .ref g2) (C := RX3) (T := TX3) (N := 3) hx hb hts hiX30 hown hK.1 hP 0 rfl rfl 2 (by decide) f1 (fun _ h9 => h9) rfl dX3_columnFor_76 ?_
          refine lv_aload hx hb dX3_columnFor_79 (lv_at hl 6 rfl) ?_
          refine lv_iload hx hb dX3_columnFor_81 (lv_at hl 0 rfl) ?_
          refine x_iald hx hb hK hP 5 0 rfl rfl (k := (Mb i)) (by omega) (by decide) dX3_columnFor_83 ?_
          refine lv_iload_n hx hb dX3_columnFor_84 rfl (lv_at hl 3 rfl) ?_
          refine x_iastN hx hb hK hP hD hS 2 0 rfl rfl (k := (C (Mb i))) (by omega) (by decide) dX3_columnFor_85 (fun H locs hP hD hS => ?_)
          have hP : va_P D vwCl (gW g0 g1 g2 cA zs Mb (va_up (rTk sp C Mb x tu T i) (C (Mb i)) tu) ++ aW q1 cA 60 si ++ aW q2 cA 60 sp ++ aW q3 cA 60 (fun j => nI (C j))) H := hP
          have hD : va_D (va_A (gW g0 g1 g2 cA zs Mb T ++ aW q1 cA 60 si ++ aW q2 cA 60 sp ++ aW q3 cA 60 (fun j => nI (C j))) sz) (gW g0 g1 g2 cA zs Mb (va_up (rTk sp C Mb x tu T i) (C (Mb i)) tu) ++ aW q1 cA 60 si ++ aW q2 cA 60 sp ++ aW q3 cA 60 (fun j => nI (C j))) := hD
          have hwe : gW g0 g1 g2 cA zs Mb (va_up (rTk sp C Mb x tu T i) (C (Mb i)) tu) ++ aW q1 cA 60 si ++ aW q2 cA 60 sp ++ aW q3 cA 60 (fun j => nI (C j)) = gW g0 g1 g2 cA zs Mb (rTk sp C Mb x tu T (i + 1)) ++ aW q1 cA 60 si ++ aW q2 cA 60 sp ++ aW q3 cA 60 (fun j => nI (C j)) := (by rw [show rTk sp C Mb x tu T (i + 1) = va_up (rTk sp C Mb x tu T i) (C (Mb i)) tu from if_pos c_72])
          rw [hwe] at hP hD
          refine lv_iinc (v := nI (i + 1)) (lv' := [(6, .int (nI (i + 1))), (7, .int (nI (Mb i))), (0, .ref g0), (1, .int (nI x)), (2, .int (nI tu)), (3, .ref q1), (4, .ref q2), (5, .ref q3)]) hx hb dX3_columnFor_86 hl (k := 7) rfl (x_inc i) (by decide) rfl (fun ls hl => ?_)
          refine lv_goto (tgt := 3) hx hb dX3_columnFor_89 (by decide) ?_
          exact ihi (by omega) () _ _ _ (lt_s hiI hnm) (lv_sub hl [2, 3, 4, 5, 6, 7, 0] rfl) hP hD hS
      · refine lv_aload_n hx hb dX3_columnFor_41 rfl (lv_at hl 4 rfl) ?_
        refine lv_iload hx hb dX3_columnFor_42 (lv_at hl 0 rfl) ?_
        refine x_iald hx hb hK hP 3 0 rfl rfl (k := (Mb i)) (by omega) (by decide) dX3_columnFor_44 ?_
        refine lv_aload_n hx hb dX3_columnFor_45 rfl (lv_at hl 4 rfl) ?_
        refine lv_iload_n hx hb dX3_columnFor_46 rfl (lv_at hl 2 rfl) ?_
        refine x_iald hx hb hK hP 3 0 rfl rfl (k := x) (by omega) (by decide) dX3_columnFor_47 ?_
        refine lv_icmp_ne (tgt := 57) hx hb dX3_columnFor_48 (by decide) (fun c_48 => ?_) (fun c_48 => ?_)
        · have hnm : ¬ cMat sp si C x (Mb i) := fun h => c_48 h.2.2
          refine lv_aload hx hb dX3_columnFor_57 (lv_at hl 5 rfl) ?_
          refine lv_iload hx hb dX3_columnFor_59 (lv_at hl 0 rfl) ?_
          refine x_iald hx hb hK hP 4 0 rfl rfl (k := (Mb i)) (by omega) (by decide) dX3_columnFor_61 ?_
          refine lv_aload hx hb dX3_columnFor_62 (lv_at hl 5 rfl) ?_
          refine lv_iload_n hx hb dX3_columnFor_64 rfl (lv_at hl 2 rfl) ?_
          refine x_iald hx hb hK hP 4 0 rfl rfl (k := x) (by omega) (by decide) dX3_columnFor_65 ?_
          refine lv_isub hx hb dX3_columnFor_66 ?_
          refine va_mabs hx hb (hml.trans hl.1.symm) hown f3 f4 f5 f6 (Nat.le_of_ble_eq_true rfl) (Nat.le_of_ble_eq_true rfl) (Nat.zero_le _) (Nat.zero_le _) dX3_columnFor_67 ?_
          refine x_tp (y := absI (sp (Mb i) - sp x)) rfl ?_
          refine lv_bipush (v := 6) hx hb dX3_columnFor_70 (by decide) ?_
          refine x_ige (tgt := 86) hx hb dX3_columnFor_72 (by decide) (fun c_72 => ?_) (fun c_72 => ?_)
          · have hwe : gW g0 g1 g2 cA zs Mb (rTk sp C Mb x tu T i) ++ aW q1 cA 60 si ++ aW q2 cA 60 sp ++ aW q3 cA 60 (fun j => nI (C j)) = gW g0 g1 g2 cA zs Mb (rTk sp C Mb x tu T (i + 1)) ++ aW q1 cA 60 si ++ aW q2 cA 60 sp ++ aW q3 cA 60 (fun j => nI (C j)) := (by rw [show rTk sp C Mb x tu T (i + 1) = rTk sp C Mb x tu T i from if_neg c_72])
            rw [hwe] at hP hD
            refine lv_iinc (v := nI (i + 1)) (lv' := [(6, .int (nI (i + 1))), (7, .int (nI (Mb i))), (0, .ref g0), (1, .int (nI x)), (2, .int (nI tu)), (3, .ref q1), (4, .ref q2), (5, .ref q3)]) hx hb dX3_columnFor_86 hl (k := 7) rfl (x_inc i) (by decide) rfl (fun ls hl => ?_)
            refine lv_goto (tgt := 3) hx hb dX3_columnFor_89 (by decide) ?_
            exact ihi (by omega) () _ _ _ (lt_s hiI hnm) (lv_sub hl [2, 3, 4, 5, 6, 7, 0] rfl) hP hD hS
          · refine lv_aload_n hx hb dX3_columnFor_75 rfl (lv_at hl 1 rfl) ?_
            refine va_get (D := D) (ci := 3) (v := .ref g2) (C := RX3) (T := TX3) (N := 3) hx hb hts hiX30 hown hK.1 hP 0 rfl rfl 2 (by decide) f1 (fun _ h9 => h9) rfl dX3_columnFor_76 ?_
            refine lv_aload hx hb dX3_columnFor_79 (lv_at hl 6 rfl) ?_
            refine lv_iload hx hb dX3_columnFor_81 (lv_at hl 0 rfl) ?_
            refine x_iald hx hb hK hP 5 0 rfl rfl (k := (Mb i)) (by omega) (by decide) dX3_columnFor_83 ?_
            refine lv_iload_n hx hb dX3_columnFor_84 rfl (lv_at hl 3 rfl) ?_
            refine x_iastN hx hb hK hP hD hS 2 0 rfl rfl (k := (C (Mb i))) (by omega) (by decide) dX3_columnFor_85 (fun H locs hP hD hS => ?_)
            have hP : va_P D vwCl (gW g0 g1 g2 cA zs Mb (va_up (rTk sp C Mb x tu T i) (C (Mb i)) tu) ++ aW q1 cA 60 si ++ aW q2 cA 60 sp ++ aW q3 cA 60 (fun j => nI (C j))) H := hP
            have hD : va_D (va_A (gW g0 g1 g2 cA zs Mb T ++ aW q1 cA 60 si ++ aW q2 cA 60 sp ++ aW q3 cA 60 (fun j => nI (C j))) sz) (gW g0 g1 g2 cA zs Mb (va_up (rTk sp C Mb x tu T i) (C (Mb i)) tu) ++ aW q1 cA 60 si ++ aW q2 cA 60 sp ++ aW q3 cA 60 (fun j => nI (C j))) := hD
            have hwe : gW g0 g1 g2 cA zs Mb (va_up (rTk sp C Mb x tu T i) (C (Mb i)) tu) ++ aW q1 cA 60 si ++ aW q2 cA 60 sp ++ aW q3 cA 60 (fun j => nI (C j)) = gW g0 g1 g2 cA zs Mb (rTk sp C Mb x tu T (i + 1)) ++ aW q1 cA 60 si ++ aW q2 cA 60 sp ++ aW q3 cA 60 (fun j => nI (C j)) := (by rw [show rTk sp C Mb x tu T (i + 1) = va_up (rTk sp C Mb x tu T i) (C (Mb i)) tu from if_pos c_72])
            rw [hwe] at hP hD
            refine lv_iinc (v := nI (i + 1)) (lv' := [(6, .int (nI (i + 1))), (7, .int (nI (Mb i))), (0, .ref g0), (1, .int (nI x)), (2, .int (nI tu)), (3, .ref q1), (4, .ref q2), (5, .ref q3)]) hx hb dX3_columnFor_86 hl (k := 7) rfl (x_inc i) (by decide) rfl (fun ls hl => ?_)
            refine lv_goto (tgt := 3) hx hb dX3_columnFor_89 (by decide) ?_
            exact ihi (by omega) () _ _ _ (lt_s hiI hnm) (lv_sub hl [2, 3, 4, 5, 6, 7, 0] rfl) hP hD hS
        · refine lv_aload hx hb dX3_columnFor_51 (lv_at hl 6 rfl) ?_
          refine lv_iload hx hb dX3_columnFor_53 (lv_at hl 0 rfl) ?_
          refine x_iald hx hb hK hP 5 0 rfl rfl (k := (Mb i)) (by omega) (by decide) dX3_columnFor_55 ?_
          exact w_iret (S0 := Nat → Nat) (w1 := (fun X => gW g0 g1 g2 cA zs Mb X ++ aW q1 cA 60 si ++ aW q2 cA 60 sp ++ aW q3 cA 60 (fun j => nI (C j)))) (rTk sp C Mb x tu T i) hx hb hr hlk hP hD hS ⟨(by
            rcases hr0 with ⟨k0, g1, g2, g3, g4⟩ | ⟨g1, g2⟩
            · have hkk : i = k0 := by
                rcases Nat.lt_trichotomy i k0 with q | q | q
                · exact absurd ⟨c_26, c_38, c_48⟩ (g3 i q)
                · exact q
                · exact absurd g2 (hiI k0 q)
              rw [g4, hkk]
            · exact absurd ⟨c_26, c_38, c_48⟩ (g1 i c_9)), fun j hj => rTk_le hT _ j hj⟩ dX3_columnFor_56

set_option maxHeartbeats 4000000 in
set_option maxRecDepth 100000 in
theorem k3_placeAll (l : Launch) (D : va_G) (cA : ClassId) (g0 g1 g2 zs : Nat) (Mb T : Nat → Nat) (q1 q2 q3 : Nat) (si sp : Nat → Int32) (C : Nat → Nat) (sz : Nat) (g r : Nat → Nat) (hz : zs ≤ 60) (hMb : ∀ i, Mb i < 60) (hC : ∀ j, C j < 61) (hr61 : ∀ i, r i < 61) (hsg : cSigns sp si C Mb zs g r) : Met l yX3_placeAll wsX3_placeAll ({ frames := 2, cells := 0, slots := 0, locals := 48 }) (wPc D (gW g0 g1 g2 cA zs Mb T ++ aW q1 cA 60 si ++ aW q2 cA 60 sp ++ aW q3 cA 60 (fun j => nI (C j))) [(cA, .int)] sz [.ref g0, .ref q1, .ref q2, .ref q3]) (va_Qi (fun (r9 : Int32) (_ : Nat → Nat) => r9 = nI (cTop r zs)) (wB D (gW g0 g1 g2 cA zs Mb T ++ aW q1 cA 60 si ++ aW q2 cA 60 sp ++ aW q3 cA 60 (fun j => nI (C j))) sz (fun X => gW g0 g1 g2 cA zs Mb X ++ aW q1 cA 60 si ++ aW q2 cA 60 sp ++ aW q3 cA 60 (fun j => nI ((cSgn C g r zs) j)))) (va_A (gW g0 g1 g2 cA zs Mb T ++ aW q1 cA 60 si ++ aW q2 cA 60 sp ++ aW q3 cA 60 (fun j => nI (C j))) sz)) 0 0 (va_A (gW g0 g1 g2 cA zs Mb T ++ aW q1 cA 60 si ++ aW q2 cA 60 sp ++ aW q3 cA 60 (fun j => nI (C j))) sz) := by
  refine w_head (C := RX3) (cc := cX3_placeAll) (maxL := 7) (ret := (some .int)) [(0, .ref g0), (1, .ref q1), (2, .ref q2), (3, .ref q3)] (by decide) rfl rfl (Nat.le_of_ble_eq_true rfl) rfl ?_
  intro p e s mi below meth cd hx hb hr hlk hml hown hin hts hP hD hS hA hK ls hl
  have hiX30 : ∀ w ∈ wsX30, w ∈ wsX3_placeAll := fun w h => List.mem_cons_of_mem _ (List.mem_append_right _ h)
  have f0 := hts (.fieldLink RX3 15 "StaffHeads$Signs" "takenInTurn" "[I") (List.mem_of_getElem? (i := 1) rfl)
  have f1 := hts (.fieldLink RX3 18 "StaffHeads$Signs" "size" "I") (List.mem_of_getElem? (i := 2) rfl)
  have f2 := hts (.methodLink RX3 36 Lib.Math.max.name) (List.mem_of_getElem? (i := 3) rfl)
  have f3 := hts (.static Lib.Math.max.name) (List.mem_of_getElem? (i := 4) rfl)
  have f4 := hts (.initialized "java/lang/Math") (List.mem_of_getElem? (i := 5) rfl)
  have f5 := hts (.code Lib.Math.max.name Lib.Math.max.code 2 (some .int)) (List.mem_of_getElem? (i := 6) rfl)
  refine lv_aload_n hx hb dX3_placeAll_0 rfl (lv_at hl 0 rfl) ?_
  refine va_get (D := D) (ci := 3) (v := .ref g2) (C := RX3) (T := TX3) (N := 3) hx hb hts hiX30 hown hK.1 hP 0 rfl rfl 2 (by decide) f0 (fun _ h9 => h9) rfl dX3_placeAll_1 ?_
  refine lv_iconst (v := 0) hx hb dX3_placeAll_4 (by decide) ?_
  refine wcSv (S0 := Unit) (wc := aW g2 cA 61 (fun j => nI (T j))) (wr := [(g0, .inr (3, [.ref g1, .int (nI zs), .ref g2])), (g1, .inl (cA, 60, .inl (fun j => nI (Mb j)))), (q1, .inl (cA, 60, .inl si)), (q2, .inl (cA, 60, .inl sp)), (q3, .inl (cA, 60, .inl (fun j => nI (C j))))]) (As := [.ref g2, .int 0]) (rest := []) ⟨hx, hb, hml, hown, hts⟩ (k7_fill l D cA g2 61 (fun j => nI (T j)) 0 _ (by decide)) (va_cwS 2 hts gX3_placeAll_J7_fill_53178 rfl rfl rfl (by decide +kernel) ⟨Nat.le_of_ble_eq_true rfl, Nat.le_of_ble_eq_true rfl⟩) hP hD hS hA hK [2] [0, 1, 3, 4, 5] rfl rfl (by decide) (by decide) (by decide) rfl hl.1 rfl (Nat.le_of_ble_eq_true rfl) dX3_placeAll_5 ⟨Nat.zero_le _, Nat.zero_le _⟩ (fun _ H locs _ hP hD hS => ?_)
  rw [show (0 : Int32) = nI 0 from rfl, fIll_nI] at hP hD
  have hP : va_P D vwCl (gW g0 g1 g2 cA zs Mb (fIll T 0 61) ++ aW q1 cA 60 si ++ aW q2 cA 60 sp ++ aW q3 cA 60 (fun j => nI ((cSgn C g r 0) j))) H := hP.sub [0, 1, 5, 2, 3, 4] rfl
  have hD : va_D (va_A (gW g0 g1 g2 cA zs Mb T ++ aW q1 cA 60 si ++ aW q2 cA 60 sp ++ aW q3 cA 60 (fun j => nI (C j))) sz) (gW g0 g1 g2 cA zs Mb (fIll T 0 61) ++ aW q1 cA 60 si ++ aW q2 cA 60 sp ++ aW q3 cA 60 (fun j => nI ((cSgn C g r 0) j))) := hD.sub [0, 1, 5, 2, 3, 4] (by decide) rfl
  refine lv_iconst (v := 0) hx hb dX3_placeAll_8 (by decide) ?_
  refine x_tp (y := nI (cTop r 0)) (show (0 : Int32) = nI 0 from rfl) ?_
  refine lv_istore (lv' := [(4, .int (nI (cTop r 0))), (0, .ref g0), (1, .ref q1), (2, .ref q2), (3, .ref q3)]) hx hb dX3_placeAll_9 hl (by decide) rfl (fun ls hl => ?_)
  refine lv_iconst (v := 1) hx hb dX3_placeAll_11 (by decide) ?_
  refine x_tp (y := nI (0 + 1)) (show (1 : Int32) = nI (0 + 1) from rfl) ?_
  refine lv_istore (lv' := [(5, .int (nI (0 + 1))), (4, .int (nI (cTop r 0))), (0, .ref g0), (1, .ref q1), (2, .ref q2), (3, .ref q3)]) hx hb dX3_placeAll_12 hl (by decide) rfl (fun ls hl => ?_)
  refine lpW (G := fun ls H locs => W p _ e _ s mi _ below meth cd H locs _ _ _ (F0 mi 14 ls [])) 7 zs (fun i (X : Nat → Nat) => [(0, .ref g0), (1, .ref q1), (2, .ref q2), (3, .ref q3), (4, .int (nI (cTop r i))), (5, .int (nI (i + 1)))]) (fun i (X : Nat → Nat) => gW g0 g1 g2 cA zs Mb X ++ aW q1 cA 60 si ++ aW q2 cA 60 sp ++ aW q3 cA 60 (fun j => nI ((cSgn C g r i) j))) (fun i X => ∀ j, j < 61 → X j ≤ i) ?_ 0 (fIll T 0 61) (Nat.zero_le _) (fun j hj => Nat.le_of_eq (fIll_all T 0 61 j hj)) (lv_sub hl [2, 3, 4, 5, 1, 0] rfl) hP hD hS
  clear hl hP hD hS
  intro i X hi hiI ls H locs hl hP hD hS ihi
  refine lv_iload hx hb dX3_placeAll_14 (lv_at hl 5 rfl) ?_
  refine lv_aload_n hx hb dX3_placeAll_16 rfl (lv_at hl 0 rfl) ?_
  refine va_get (D := D) (ci := 3) (v := .int (nI zs)) (C := RX3) (T := TX3) (N := 3) hx hb hts hiX30 hown hK.1 hP 0 rfl rfl 1 (by decide) f1 (fun _ h9 => h9) rfl dX3_placeAll_17 ?_
  refine x_ngt (tgt := 81) hx hb dX3_placeAll_20 (by decide) (by omega) (by omega) (fun c_20 => ?_) (fun c_20 => ?_)
  · obtain rfl : zs = i := by omega
    refine lv_iload hx hb dX3_placeAll_81 (lv_at hl 4 rfl) ?_
    exact w_iret (S0 := Nat → Nat) (w1 := fun X => gW g0 g1 g2 cA zs Mb X ++ aW q1 cA 60 si ++ aW q2 cA 60 sp ++ aW q3 cA 60 (fun j => nI ((cSgn C g r zs) j))) X hx hb hr hlk hP hD hS rfl dX3_placeAll_83
  · obtain ⟨hpk, hcf⟩ := hsg i c_20
    have hgi : g i < 60 := by obtain ⟨i0, h1, h2⟩ := oPick_lt hpk; rw [h2]; exact hMb i0
    have hCi := cSgn_lt (g := g) hC hr61 i
    have hti := cTop_lt hr61 i
    have hri := hr61 i
    refine lv_aload_n hx hb dX3_placeAll_23 rfl (lv_at hl 0 rfl) ?_
    refine x_join 7 [(0, .ref g0), (1, .ref q1), (2, .ref q2), (3, .ref q3), (4, .int (nI (cTop r i))), (5, .int (nI (i + 1)))] 37 [.int (bv (i % 2 = 0)), .ref g0] ?_ (fun j_37 => ?_)
    · intro ls hl
      refine lv_aload_n hx hb dX3_placeAll_37 rfl (lv_at hl 2 rfl) ?_
      refine lv_aload_n hx hb dX3_placeAll_38 rfl (lv_at hl 3 rfl) ?_
      refine rcVi (As := [.int (bv (i % 2 = 0)), .ref q2, .ref q3]) (rest := []) ⟨hx, hb, hml, hown, hts⟩ (k3_outermost l D cA g0 g1 g2 zs Mb X q2 q3 sp (cSgn C g r i) (i % 2 = 0) (by omega) hMb hCi) (cwV 3 hts gX3_placeAll_X3_outermost rfl rfl rfl (by decide +kernel) ⟨Nat.le_of_ble_eq_true rfl, Nat.le_of_ble_eq_true rfl⟩) (va_recv hK.1 hP (ci := 3) (q0 := 0) rfl rfl) (hP.sub [0, 1, 2, 4, 5] rfl) hK rfl hl.1 rfl (Nat.le_of_ble_eq_true rfl) dX3_placeAll_39 ⟨Nat.zero_le _, Nat.zero_le _⟩ ?_
      refine x_tp (y := nI (g i)) (by rw [hpk]; rfl) ?_
      refine lv_istore (lv' := [(6, .int (nI (g i))), (0, .ref g0), (1, .ref q1), (2, .ref q2), (3, .ref q3), (4, .int (nI (cTop r i))), (5, .int (nI (i + 1)))]) hx hb dX3_placeAll_42 hl (by decide) rfl (fun ls hl => ?_)
      refine lv_iload hx hb dX3_placeAll_44 (lv_at hl 0 rfl) ?_
      refine lv_if_lt (tgt := 75) hx hb dX3_placeAll_46 (by decide) (fun c_46 => ?_) (fun c_46 => ?_)
      · exact absurd c_46 (enc1_neg hgi)
      · refine lv_aload_n hx hb dX3_placeAll_49 rfl (lv_at hl 4 rfl) ?_
        refine lv_iload hx hb dX3_placeAll_50 (lv_at hl 0 rfl) ?_
        refine lv_aload_n hx hb dX3_placeAll_52 rfl (lv_at hl 1 rfl) ?_
        refine lv_iload hx hb dX3_placeAll_53 (lv_at hl 0 rfl) ?_
        refine lv_iload hx hb dX3_placeAll_55 (lv_at hl 6 rfl) ?_
        refine lv_aload_n hx hb dX3_placeAll_57 rfl (lv_at hl 2 rfl) ?_
        refine lv_aload_n hx hb dX3_placeAll_58 rfl (lv_at hl 3 rfl) ?_
        refine lv_aload_n hx hb dX3_placeAll_59 rfl (lv_at hl 4 rfl) ?_
        refine wcVi (S0 := Nat → Nat) (wr := []) (As := [.int (nI (g i)), .int (nI (i + 1)), .ref q1, .ref q2, .ref q3]) (rest := [.int (nI (g i)), .ref q3]) ⟨hx, hb, hml, hown, hts⟩ (k3_columnFor l D cA g0 g1 g2 zs Mb X q1 q2 q3 si sp (cSgn C g r i) H.size (g i) (i + 1) (r i) hgi (by omega) (by omega) hMb hCi (fun j hj => Nat.le_succ_of_le (hiI j hj)) (hcf X hiI)) (cwV 5 hts gX3_placeAll_X3_columnFor rfl rfl rfl (by decide +kernel) ⟨Nat.le_of_ble_eq_true rfl, Nat.le_of_ble_eq_true rfl⟩) (va_recv hK.1 hP (ci := 3) (q0 := 0) rfl rfl) hP hD hS hA hK [0, 1, 2, 3, 4, 5] [] rfl rfl (by decide) (by decide) (by decide) rfl hl.1 rfl (Nat.le_of_ble_eq_true rfl) dX3_placeAll_60 ⟨Nat.zero_le _, Nat.zero_le _⟩ (fun r1 X1 H locs hpo hP hD hS => ?_)
        obtain ⟨hr1, hX1⟩ := hpo
        subst hr1
        have hP : va_P D vwCl (gW g0 g1 g2 cA zs Mb X1 ++ aW q1 cA 60 si ++ aW q2 cA 60 sp ++ aW q3 cA 60 (fun j => nI ((cSgn C g r i) j))) H := hP
        have hD : va_D (va_A (gW g0 g1 g2 cA zs Mb T ++ aW q1 cA 60 si ++ aW q2 cA 60 sp ++ aW q3 cA 60 (fun j => nI (C j))) sz) (gW g0 g1 g2 cA zs Mb X1 ++ aW q1 cA 60 si ++ aW q2 cA 60 sp ++ aW q3 cA 60 (fun j => nI ((cSgn C g r i) j))) := hD
        refine x_iastN hx hb hK hP hD hS 5 0 rfl rfl (k := (g i)) (by omega) (by decide) dX3_placeAll_63 (fun H locs hP hD hS => ?_)
        have hP : va_P D vwCl (gW g0 g1 g2 cA zs Mb X1 ++ aW q1 cA 60 si ++ aW q2 cA 60 sp ++ aW q3 cA 60 (fun j => nI ((va_up (cSgn C g r i) (g i) (r i)) j))) H := hP
        have hD : va_D (va_A (gW g0 g1 g2 cA zs Mb T ++ aW q1 cA 60 si ++ aW q2 cA 60 sp ++ aW q3 cA 60 (fun j => nI (C j))) sz) (gW g0 g1 g2 cA zs Mb X1 ++ aW q1 cA 60 si ++ aW q2 cA 60 sp ++ aW q3 cA 60 (fun j => nI ((va_up (cSgn C g r i) (g i) (r i)) j))) := hD
        have hP : va_P D vwCl (gW g0 g1 g2 cA zs Mb X1 ++ aW q1 cA 60 si ++ aW q2 cA 60 sp ++ aW q3 cA 60 (fun j => nI ((cSgn C g r (i + 1)) j))) H := hP
        have hD : va_D (va_A (gW g0 g1 g2 cA zs Mb T ++ aW q1 cA 60 si ++ aW q2 cA 60 sp ++ aW q3 cA 60 (fun j => nI (C j))) sz) (gW g0 g1 g2 cA zs Mb X1 ++ aW q1 cA 60 si ++ aW q2 cA 60 sp ++ aW q3 cA 60 (fun j => nI ((cSgn C g r (i + 1)) j))) := hD
        refine lv_iload hx hb dX3_placeAll_64 (lv_at hl 5 rfl) ?_
        refine lv_aload_n hx hb dX3_placeAll_66 rfl (lv_at hl 4 rfl) ?_
        refine lv_iload hx hb dX3_placeAll_67 (lv_at hl 0 rfl) ?_
        refine x_iald hx hb hK hP 5 0 rfl rfl (k := (g i)) (by omega) (by decide) dX3_placeAll_69 ?_
        refine x_tp (y := nI (r i)) (by rw [show cSgn C g r (i + 1) = va_up (cSgn C g r i) (g i) (r i) from rfl, va_up_self]) ?_
        refine va_mmax hx hb (hml.trans hl.1.symm) hown f2 f3 f4 f5 (Nat.le_of_ble_eq_true rfl) (Nat.le_of_ble_eq_true rfl) (Nat.zero_le _) (Nat.zero_le _) dX3_placeAll_70 ?_
        refine x_tp (y := nI (cTop r (i + 1))) (mxI_nI (by omega) (by omega)) ?_
        refine lv_istore (lv' := [(4, .int (nI (cTop r (i + 1)))), (6, .int (nI (g i))), (0, .ref g0), (1, .ref q1), (2, .ref q2), (3, .ref q3), (5, .int (nI (i + 1)))]) hx hb dX3_placeAll_73 hl (by decide) rfl (fun ls hl => ?_)
        refine lv_iinc (v := nI (i + 1 + 1)) (lv' := [(5, .int (nI (i + 1 + 1))), (4, .int (nI (cTop r (i + 1)))), (6, .int (nI (g i))), (0, .ref g0), (1, .ref q1), (2, .ref q2), (3, .ref q3)]) hx hb dX3_placeAll_75 hl (k := 6) rfl (x_inc (i + 1)) (by decide) rfl (fun ls hl => ?_)
        refine lv_goto (tgt := 14) hx hb dX3_placeAll_78 (by decide) ?_
        exact ihi (by omega) X1 _ _ _ hX1 (lv_sub hl [3, 4, 5, 6, 1, 0] rfl) hP hD hS
    refine lv_iload hx hb dX3_placeAll_24 (lv_at hl 5 rfl) ?_
    refine lv_iconst (v := 2) hx hb dX3_placeAll_26 (by decide) ?_
    refine lv_irem hx hb dX3_placeAll_27 (by decide) ?_
    refine x_tp (y := nI ((i + 1) % 2)) (pk_rem (a := i + 1) (d := 2) (by omega) (by decide) (by decide)) ?_
    refine lv_iconst (v := 1) hx hb dX3_placeAll_28 (by decide) ?_
    refine x_tp (y := nI 1) (show (1 : Int32) = nI 1 from rfl) ?_
    refine x_nne (tgt := 36) hx hb dX3_placeAll_29 (by decide) (by omega) (by omega) (fun c_29 => ?_) (fun c_29 => ?_)
    · refine lv_iconst (v := 0) hx hb dX3_placeAll_36 (by decide) ?_
      refine x_tp (y := bv (i % 2 = 0)) (bv_f (by omega)).symm ?_
      exact j_37 _ (lv_sub hl [0, 1, 2, 3, 4, 5] rfl)
    · refine lv_iconst (v := 1) hx hb dX3_placeAll_32 (by decide) ?_
      refine lv_goto (tgt := 37) hx hb dX3_placeAll_33 (by decide) ?_
      refine x_tp (y := bv (i % 2 = 0)) (bv_t (by omega)).symm ?_
      exact j_37 _ (lv_sub hl [0, 1, 2, 3, 4, 5] rfl)
