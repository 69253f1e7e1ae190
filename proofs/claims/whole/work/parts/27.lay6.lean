set_option maxHeartbeats 4000000 in
set_option maxRecDepth 100000 in
theorem k1_refresh (l0 : Launch) (D : va_G) (c : Nat → Nat) (cA cC : ClassId) (sl : Prop) (X : lS) (n m : Nat) (lo : Nat → Int32) (a : Nat → Nat → Int32) (sz : Nat) (hW : WF n m a) (hLo : LoOK lo a) (hJ : JK X) (hLK : ¬ sl → LK a n m X) : Met l0 yX1_refresh wsX1_refresh ({ frames := 5, cells := 0, slots := 0, locals := 120 }) (wPc D (lyX c cA cC sl X ++ noW c cA n a ++ svW c cA m lo a) [(cA, .int), (cC, .object "StaffHeads$Chord")] sz [.ref (c 14), .ref (c 7), .ref (c 1)]) (va_Qv (fun X : lS => JK X ∧ LK a n m X) (wB D (lyX c cA cC sl X ++ noW c cA n a ++ svW c cA m lo a) sz (fun X => lyX c cA cC False X ++ noW c cA n a ++ svW c cA m lo a)) (va_A (lyX c cA cC sl X ++ noW c cA n a ++ svW c cA m lo a) sz)) 0 0 (va_A (lyX c cA cC sl X ++ noW c cA n a ++ svW c cA m lo a) sz) := by
  refine w_head (C := RX1) (cc := cX1_refresh) (maxL := 5) (ret := none) [(0, .ref (c 14)), (1, .ref (c 7)), (2, .ref (c 1))] (by decide) rfl rfl (Nat.le_of_ble_eq_true rfl) rfl ?_
  intro p e s mi below meth cd hx hb hr hlk hml hown hin hts hP hD hS hA hK ls hl
  have hiX10 : ∀ w ∈ wsX10, w ∈ wsX1_refresh := fun w h => List.mem_cons_of_mem _ (List.mem_append_left _ (List.mem_append_left _ (List.mem_append_left _ (List.mem_append_left _ (List.mem_append_right _ h)))))
  have hiX20 : ∀ w ∈ wsX20, w ∈ wsX1_refresh := fun w h => List.mem_cons_of_mem _ (List.mem_append_left _ (List.mem_append_left _ (List.mem_append_left _ (List.mem_append_right _ h))))
  have f0 := hts (.fieldLink RX1 9 "StaffHeads$Layout" "stale" "Z") (List.mem_of_getElem? (i := 1) rfl)
  have f1 := hts (.fieldLink RX1 69 "StaffHeads$Notes" "count" "I") (List.mem_of_getElem? (i := 2) rfl)
  have f2 := hts (.fieldLink RX1 75 "StaffHeads$Notes" "staff" "[I") (List.mem_of_getElem? (i := 4) rfl)
  have f3 := hts (.fieldLink RX1 78 "StaffHeads$Notes" "tick" "[I") (List.mem_of_getElem? (i := 5) rfl)
  have f4 := hts (.initialized RX5) (List.mem_of_getElem? (i := 35) rfl)
  have f5 := hts (.static yX5_cellOf) (List.mem_of_getElem? (i := 37) rfl)
  have f6 := hts (.fieldLink RX1 40 "StaffHeads$Layout" "noteCount" "[I") (List.mem_of_getElem? (i := 7) rfl)
  have f7 := hts (.fieldLink RX1 15 "StaffHeads$Layout" "step" "[I") (List.mem_of_getElem? (i := 3) rfl)
  have f8 := hts (.fieldLink RX1 81 "StaffHeads$Notes" "number" "[I") (List.mem_of_getElem? (i := 6) rfl)
  have hK1 : kK D [(cA, .int)] s := ⟨hK.1.sub [0] rfl, hK.2⟩
  have hn : n ≤ 60 := hW.1
  refine lv_aload_n hx hb dX1_refresh_0 rfl (lv_at hl 0 rfl) ?_
  refine va_get (D := D) (ci := 1) (v := .int (bv sl)) (C := RX1) (T := TX1) (N := 15) hx hb hts hiX10 hown hK.1 hP 0 rfl rfl 0 (by decide) f0 (fun _ h9 => h9) rfl dX1_refresh_1 ?_
  refine x_ifne (tgt := 8) hx hb dX1_refresh_4 (by decide) (fun (c_4 : sl) => ?_) (fun (c_4 : ¬ (sl)) => ?_)
  · refine lv_aload_n hx hb dX1_refresh_8 rfl (lv_at hl 0 rfl) ?_
    refine wcVv (S0 := (Nat → Nat → Int32) × (Nat → Nat)) (wr := [(c 28, .inr (0, [.ref (c 31), .int (nI (X.2.2.1 0)), .int (X.2.2.2.1 0 0), .int (X.2.2.2.1 1 0), .int (bv (X.2.2.2.2.1 0 0)), .int (bv (X.2.2.2.2.1 1 0)), .int (nI (X.2.2.2.2.2.1 0))])), (c 31, .inl (cA, 60, .inl (fun j => nI (X.2.2.2.2.2.2.1 0 j)))), (c 29, .inr (0, [.ref (c 32), .int (nI (X.2.2.1 1)), .int (X.2.2.2.1 0 1), .int (X.2.2.2.1 1 1), .int (bv (X.2.2.2.2.1 0 1)), .int (bv (X.2.2.2.2.1 1 1)), .int (nI (X.2.2.2.2.2.1 1))])), (c 32, .inl (cA, 60, .inl (fun j => nI (X.2.2.2.2.2.2.1 1 j)))), (c 30, .inr (0, [.ref (c 33), .int (nI (X.2.2.1 2)), .int (X.2.2.2.1 0 2), .int (X.2.2.2.1 1 2), .int (bv (X.2.2.2.2.1 0 2)), .int (bv (X.2.2.2.2.1 1 2)), .int (nI (X.2.2.2.2.2.1 2))])), (c 33, .inl (cA, 60, .inl (fun j => nI (X.2.2.2.2.2.2.1 2 j)))), (c 34, .inr (3, [.ref (c 35), .int (nI X.2.2.2.2.2.2.2.1), .ref (c 36)])), (c 35, .inl (cA, 60, .inl (fun j => nI (X.2.2.2.2.2.2.2.2 0 j)))), (c 36, .inl (cA, 61, .inl (fun j => nI (X.2.2.2.2.2.2.2.2 1 j))))] ++ noW c cA n a ++ svW c cA m lo a) (As := []) (rest := []) ⟨hx, hb, hml, hown, hts⟩ (k1_clear l0 D c cA cC sl (X.1 1) (X.1 2) (X.1 3) (X.1 4) (X.1 5) X.2.1 (X.1 7) (X.1 8) (X.1 9) (X.1 10) (X.1 11) (X.1 12) _) (cwV 0 hts gX1_refresh_X1_clear rfl rfl rfl (by decide +kernel) ⟨Nat.le_of_ble_eq_true rfl, Nat.le_of_ble_eq_true rfl⟩) (va_recv hK.1 hP (ci := 1) (q0 := 0) rfl rfl) hP hD hS hA hK [0, 1, 2, 3, 4, 5, 6, 7, 8, 9, 10, 11, 12, 13] [14, 15, 16, 17, 18, 19, 20, 21, 22, 23, 24, 25, 26, 27, 28, 29, 30, 31, 32, 33, 34, 35] rfl rfl (by decide) (by decide) (by decide) rfl hl.1 rfl (Nat.le_of_ble_eq_true rfl) dX1_refresh_9 ⟨Nat.zero_le _, Nat.zero_le _⟩ (fun Cc H locs hcl hP hD hS => ?_)
    have hP : va_P D vwCl (lyX c cA cC sl (fun i => if i ≤ 5 then X.1 i else Cc.1 i, Cc.2, X.2.2) ++ noW c cA n a ++ svW c cA m lo a) H := hP.sub [22, 23, 24, 25, 26, 27, 28, 29, 30, 31, 32, 33, 34, 35, 0, 1, 2, 3, 4, 5, 6, 7, 8, 9, 10, 11, 12, 13, 14, 15, 16, 17, 18, 19, 20, 21] rfl
    have hD : va_D (va_A (lyX c cA cC sl X ++ noW c cA n a ++ svW c cA m lo a) sz) (lyX c cA cC sl (fun i => if i ≤ 5 then X.1 i else Cc.1 i, Cc.2, X.2.2) ++ noW c cA n a ++ svW c cA m lo a) := hD.sub [22, 23, 24, 25, 26, 27, 28, 29, 30, 31, 32, 33, 34, 35, 0, 1, 2, 3, 4, 5, 6, 7, 8, 9, 10, 11, 12, 13, 14, 15, 16, 17, 18, 19, 20, 21] (by decide) rfl
    obtain ⟨hc6, hc7, hc8, hc9, hc10, hc11, hc12⟩ := hcl
    have hP : va_P D vwCl (lyX c cA cC sl (clX X Cc) ++ noW c cA n a ++ svW c cA m lo a) H := va_Prow hP 6 (g := fun j => nI (c60 Cc.2 j)) rfl (fun j hj => by unfold c60; rw [if_pos hj])
    have hD : va_D (va_A (lyX c cA cC sl X ++ noW c cA n a ++ svW c cA m lo a) sz) (lyX c cA cC sl (clX X Cc) ++ noW c cA n a ++ svW c cA m lo a) := hD.set (p := 6) rfl
    have hJ1 : JK (clX X Cc) := ⟨fun j => by show c60 Cc.2 j < 61; unfold c60; split; (rw [hc6 j (by assumption)]; decide); decide, hJ.2.1, hJ.2.2⟩
    refine lv_iconst (v := 0) hx hb dX1_refresh_12 (by decide) ?_
    refine x_tp (y := nI 0) nI_0.symm ?_
    refine lv_istore_n (lv' := [(3, .int (nI 0)), (0, .ref (c 14)), (1, .ref (c 7)), (2, .ref (c 1))]) hx hb dX1_refresh_13 rfl hl (by decide) rfl (fun ls hl => ?_)
    refine lpW (G := fun ls H locs => W p _ e _ s mi _ below meth cd H locs _ _ _ (F0 mi 14 ls [])) 5 n (fun i (f : Nat → Int32) => [(0, .ref (c 14)), (1, .ref (c 7)), (2, .ref (c 1)), (3, .int (nI i))]) (fun i (f : Nat → Int32) => lyX c cA cC sl (r1X (clX X Cc) f) ++ noW c cA n a ++ svW c cA m lo a) (fun i f => ∀ k, k < i → f k = spK a m k) ?_ 0 ((clX X Cc).1 1) (Nat.zero_le _) (fun k hk => absurd hk (Nat.not_lt_zero k)) (lv_sub hl [1, 2, 3, 0] rfl) hP hD hS
    clear hl hP hD hS
    intro i f hi hiI ls H locs hl hP hD hS ihi
    refine lv_iload_n hx hb dX1_refresh_14 rfl (lv_at hl 3 rfl) ?_
    refine lv_aload_n hx hb dX1_refresh_15 rfl (lv_at hl 1 rfl) ?_
    refine va_get (D := D) (ci := 2) (v := .int (nI n)) (C := RX2) (T := TX2) (N := 7) hx hb hts hiX20 hown hK.1 hP 23 rfl rfl 6 (by decide) f1 (fun _ h9 => h9) rfl dX1_refresh_16 ?_
    refine x_nge (tgt := 56) hx hb dX1_refresh_19 (by decide) (by omega) (by omega) (fun c_19 => ?_) (fun c_19 => ?_)
    · obtain rfl : n = i := by omega
      have hc6L : ∀ j, j < 60 → c60 Cc.2 j = 0 := fun j hj => by unfold c60; rw [if_pos hj]; exact hc6 j hj
      refine lv_iconst (v := 0) hx hb dX1_refresh_56 (by decide) ?_
      refine x_tp (y := nI 0) nI_0.symm ?_
      refine lv_istore_n (lv' := [(3, .int (nI 0)), (0, .ref (c 14)), (1, .ref (c 7)), (2, .ref (c 1))]) hx hb dX1_refresh_57 rfl hl (by decide) rfl (fun ls hl => ?_)
      refine lpW (G := fun ls H locs => W p _ e _ s mi _ below meth cd H locs _ _ _ (F0 mi 58 ls [])) 5 n (fun i (Y : lS) => [(0, .ref (c 14)), (1, .ref (c 7)), (2, .ref (c 1)), (3, .int (nI i))]) (fun i (Y : lS) => lyX c cA cC sl Y ++ noW c cA n a ++ svW c cA m lo a) (fun i Y => I2 a n (spK a m) i Y) ?_ 0 (r1X (clX X Cc) f) (Nat.zero_le _) (I2_0 hW.1 hJ1 hiI hc6L hc7 hc8 hc9 hc10 hc11 hc12) (lv_sub hl [1, 2, 3, 0] rfl) hP hD hS
      clear hl hP hD hS
      intro i Y hi hiI ls H locs hl hP hD hS ihi
      refine lv_iload_n hx hb dX1_refresh_58 rfl (lv_at hl 3 rfl) ?_
      refine lv_aload_n hx hb dX1_refresh_59 rfl (lv_at hl 1 rfl) ?_
      refine va_get (D := D) (ci := 2) (v := .int (nI n)) (C := RX2) (T := TX2) (N := 7) hx hb hts hiX20 hown hK.1 hP 23 rfl rfl 6 (by decide) f1 (fun _ h9 => h9) rfl dX1_refresh_60 ?_
      refine x_nge (tgt := 107) hx hb dX1_refresh_63 (by decide) (by omega) (by omega) (fun c_63 => ?_) (fun c_63 => ?_)
      · obtain rfl : n = i := by omega
        refine lv_aload_n hx hb dX1_refresh_107 rfl (lv_at hl 0 rfl) ?_
        refine lv_iconst (v := 0) hx hb dX1_refresh_108 (by decide) ?_
        refine x_tp (y := bv False) (bv_f (fun h => h)).symm ?_
        refine va_put (D := D) (ci := 1) (v := .int (bv False)) (ty := .boolean) (C := RX1) (T := TX1) (N := 15) hx hb hts hiX10 tyX1 tyX1_ok nmX1 hown hK.1 hP hD hS 0 rfl rfl 0 (by decide) f0 (fun _ h9 => h9) rfl (by decide +kernel) bv_nar bv_fits (Nat.le_of_ble_eq_true rfl) dX1_refresh_109 (fun H locs hP hD hS => ?_)
        have hP : va_P D vwCl (lyX c cA cC False Y ++ noW c cA n a ++ svW c cA m lo a) H := hP
        have hD : va_D (va_A (lyX c cA cC sl X ++ noW c cA n a ++ svW c cA m lo a) sz) (lyX c cA cC False Y ++ noW c cA n a ++ svW c cA m lo a) := hD
        exact w_vret (S0 := lS) (w1 := fun X => lyX c cA cC False X ++ noW c cA n a ++ svW c cA m lo a) Y hx hb hr hlk hP hD hS (I2_n hiI) dX1_refresh_112
      · obtain ⟨sj, hsj, hse⟩ := hW.2.2.1 i c_63
        obtain ⟨tj, htj, hte⟩ := hW.2.2.2.2.1 i c_63
        refine lv_aload_n hx hb dX1_refresh_66 rfl (lv_at hl 1 rfl) ?_
        refine va_get (D := D) (ci := 2) (v := .ref (c 8)) (C := RX2) (T := TX2) (N := 7) hx hb hts hiX20 hown hK.1 hP 23 rfl rfl 0 (by decide) f2 (fun _ h9 => h9) rfl dX1_refresh_67 ?_
        refine lv_iload_n hx hb dX1_refresh_70 rfl (lv_at hl 3 rfl) ?_
        refine x_iald hx hb hK hP 24 0 rfl rfl (k := i) (by omega) (by decide) dX1_refresh_71 ?_
        refine x_tp (y := nI sj) hse ?_
        refine lv_aload_n hx hb dX1_refresh_72 rfl (lv_at hl 1 rfl) ?_
        refine va_get (D := D) (ci := 2) (v := .ref (c 10)) (C := RX2) (T := TX2) (N := 7) hx hb hts hiX20 hown hK.1 hP 23 rfl rfl 2 (by decide) f3 (fun _ h9 => h9) rfl dX1_refresh_73 ?_
        refine lv_iload_n hx hb dX1_refresh_76 rfl (lv_at hl 3 rfl) ?_
        refine x_iald hx hb hK hP 26 0 rfl rfl (k := i) (by omega) (by decide) dX1_refresh_77 ?_
        refine x_tp (y := nI tj) hte ?_
        refine rcSNi (As := [.int (nI sj), .int (nI tj)]) (rest := []) ⟨hx, hb, hml, hown, hts⟩ (k5_cellOf l0 (nI sj) (nI tj)) ⟨va_cnB (host := RX5) 2 hts gX1_refresh_X5_cellOf_n90 rfl rfl rfl hK.2.2.2.2.2.1 f4 (by decide +kernel) ⟨Nat.le_of_ble_eq_true rfl, Nat.le_of_ble_eq_true rfl⟩, f5, trivial⟩ rfl hl.1 rfl (Nat.le_of_ble_eq_true rfl) dX1_refresh_78 ⟨Nat.zero_le _, Nat.zero_le _⟩ ?_
        refine x_tp (y := nI (sj * 100 + tj)) (cell_nI _ _) ?_
        refine lv_istore (lv' := [(4, .int (nI (sj * 100 + tj))), (0, .ref (c 14)), (1, .ref (c 7)), (2, .ref (c 1)), (3, .int (nI i))]) hx hb dX1_refresh_81 hl (by decide) rfl (fun ls hl => ?_)
        refine lv_aload_n hx hb dX1_refresh_83 rfl (lv_at hl 1 rfl) ?_
        refine va_get (D := D) (ci := 1) (v := .ref (c 23)) (C := RX1) (T := TX1) (N := 15) hx hb hts hiX10 hown hK.1 hP 0 rfl rfl 9 (by decide) f6 (fun _ h9 => h9) rfl dX1_refresh_84 ?_
        refine lv_iload hx hb dX1_refresh_87 (lv_at hl 0 rfl) ?_
        refine x_iald hx hb hK hP 9 0 rfl rfl (k := (sj * 100 + tj)) (by omega) (by decide) dX1_refresh_89 ?_
        refine lv_if_ne (tgt := 101) hx hb dX1_refresh_90 (by decide) (fun c_90 => ?_) (fun c_90 => ?_)
        · refine lv_iinc (v := nI (i + 1)) (lv' := [(3, .int (nI (i + 1))), (4, .int (nI (sj * 100 + tj))), (0, .ref (c 14)), (1, .ref (c 7)), (2, .ref (c 1))]) hx hb dX1_refresh_101 hl (k := 4) rfl (x_inc i) (by decide) rfl (fun ls hl => ?_)
          refine lv_goto (tgt := 58) hx hb dX1_refresh_104 (by decide) ?_
          exact ihi (by omega) Y _ _ _ (I2_skip hsj htj hse hte hiI c_90) (lv_sub hl [2, 3, 4, 0] rfl) hP hD hS
        · have hpre := I2_pre hW.1 hW.2.2.2.1 c_63 hsj htj hiI c_90
          refine lv_aload_n hx hb dX1_refresh_93 rfl (lv_at hl 1 rfl) ?_
          refine lv_aload_n hx hb dX1_refresh_94 rfl (lv_at hl 2 rfl) ?_
          refine lv_iload_n hx hb dX1_refresh_95 rfl (lv_at hl 4 rfl) ?_
          refine lv_iload hx hb dX1_refresh_96 (lv_at hl 0 rfl) ?_
          refine wcVv (S0 := lS) (wr := svW c cA m lo a) (As := [.ref (c 7), .int (nI i), .int (nI (sj * 100 + tj))]) (rest := []) ⟨hx, hb, hml, hown, hts⟩ (k1_lay l0 D c cA cC sl Y n a i (sj * 100 + tj) _ (spK a m) hW.1 c_63 (by omega) hiI.1 (fun k hk => spK_bd hW k hk) hiI.2.1 hW.2.2.2.1 (by rw [hse, hte]; exact hpre.1) (by rw [hse, hte]; exact hpre.2.1) hpre.2.2.1 hpre.2.2.2.1 hpre.2.2.2.2.1 hpre.2.2.2.2.2.1 hpre.2.2.2.2.2.2.2) (cwV 3 hts gX1_refresh_X1_layCell rfl rfl rfl (by decide +kernel) ⟨Nat.le_of_ble_eq_true rfl, Nat.le_of_ble_eq_true rfl⟩) (va_recv hK.1 hP (ci := 1) (q0 := 0) rfl rfl) hP hD hS hA hK [0, 1, 2, 3, 4, 5, 6, 7, 8, 9, 10, 11, 12, 13, 14, 15, 16, 17, 18, 19, 20, 21, 22, 23, 24, 25, 26, 27, 28, 29] [30, 31, 32, 33, 34, 35] rfl rfl (by decide) (by decide) (by decide) rfl hl.1 rfl (Nat.le_of_ble_eq_true rfl) dX1_refresh_98 ⟨Nat.zero_le _, Nat.zero_le _⟩ (fun Y2 H locs hp2 hP hD hS => ?_)
          have hP : va_P D vwCl (lyX c cA cC sl Y2 ++ noW c cA n a ++ svW c cA m lo a) H := hP.sub [6, 7, 8, 9, 10, 11, 12, 13, 14, 15, 16, 17, 18, 19, 20, 21, 22, 23, 24, 25, 26, 27, 28, 29, 30, 31, 32, 33, 34, 35, 0, 1, 2, 3, 4, 5] rfl
          have hD : va_D (va_A (lyX c cA cC sl X ++ noW c cA n a ++ svW c cA m lo a) sz) (lyX c cA cC sl Y2 ++ noW c cA n a ++ svW c cA m lo a) := hD.sub [6, 7, 8, 9, 10, 11, 12, 13, 14, 15, 16, 17, 18, 19, 20, 21, 22, 23, 24, 25, 26, 27, 28, 29, 30, 31, 32, 33, 34, 35, 0, 1, 2, 3, 4, 5] (by decide) rfl
          rw [hse, hte] at hp2
          refine lv_iinc (v := nI (i + 1)) (lv' := [(3, .int (nI (i + 1))), (4, .int (nI (sj * 100 + tj))), (0, .ref (c 14)), (1, .ref (c 7)), (2, .ref (c 1))]) hx hb dX1_refresh_101 hl (k := 4) rfl (x_inc i) (by decide) rfl (fun ls hl => ?_)
          refine lv_goto (tgt := 58) hx hb dX1_refresh_104 (by decide) ?_
          exact ihi (by omega) Y2 _ _ _ (I2_lay hsj htj hse hte hiI hp2) (lv_sub hl [2, 3, 4, 0] rfl) hP hD hS
    · obtain ⟨j, hj, hje⟩ := hW.2.2.1 i c_19
      refine lv_aload_n hx hb dX1_refresh_22 rfl (lv_at hl 0 rfl) ?_
      refine va_get (D := D) (ci := 1) (v := .ref (c 15)) (C := RX1) (T := TX1) (N := 15) hx hb hts hiX10 hown hK.1 hP 0 rfl rfl 1 (by decide) f7 (fun _ h9 => h9) rfl dX1_refresh_23 ?_
      refine lv_iload_n hx hb dX1_refresh_26 rfl (lv_at hl 3 rfl) ?_
      refine lv_aload_n hx hb dX1_refresh_27 rfl (lv_at hl 2 rfl) ?_
      refine lv_aload_n hx hb dX1_refresh_28 rfl (lv_at hl 1 rfl) ?_
      refine va_get (D := D) (ci := 2) (v := .ref (c 8)) (C := RX2) (T := TX2) (N := 7) hx hb hts hiX20 hown hK.1 hP 23 rfl rfl 0 (by decide) f2 (fun _ h9 => h9) rfl dX1_refresh_29 ?_
      refine lv_iload_n hx hb dX1_refresh_32 rfl (lv_at hl 3 rfl) ?_
      refine x_iald hx hb hK hP 24 0 rfl rfl (k := i) (by omega) (by decide) dX1_refresh_33 ?_
      refine x_tp (y := nI j) hje ?_
      refine lv_aload_n hx hb dX1_refresh_34 rfl (lv_at hl 1 rfl) ?_
      refine va_get (D := D) (ci := 2) (v := .ref (c 10)) (C := RX2) (T := TX2) (N := 7) hx hb hts hiX20 hown hK.1 hP 23 rfl rfl 2 (by decide) f3 (fun _ h9 => h9) rfl dX1_refresh_35 ?_
      refine lv_iload_n hx hb dX1_refresh_38 rfl (lv_at hl 3 rfl) ?_
      refine x_iald hx hb hK hP 26 0 rfl rfl (k := i) (by omega) (by decide) dX1_refresh_39 ?_
      refine lv_aload_n hx hb dX1_refresh_40 rfl (lv_at hl 1 rfl) ?_
      refine va_get (D := D) (ci := 2) (v := .ref (c 11)) (C := RX2) (T := TX2) (N := 7) hx hb hts hiX20 hown hK.1 hP 23 rfl rfl 3 (by decide) f8 (fun _ h9 => h9) rfl dX1_refresh_41 ?_
      refine lv_iload_n hx hb dX1_refresh_44 rfl (lv_at hl 3 rfl) ?_
      refine x_iald hx hb hK hP 27 0 rfl rfl (k := i) (by omega) (by decide) dX1_refresh_45 ?_
      refine rcVi (As := [.int (nI j), .int (a 9 i), .int (a 10 i)]) (rest := [.int (nI i), .ref (c 15)]) ⟨hx, hb, hml, hown, hts⟩ (k4_stepOf l0 D c cA m lo a j (a 9 i) (a 10 i) hj hW.2.1) (cwV 3 hts gX1_refresh_X4_stepOf rfl rfl rfl (by decide +kernel) ⟨Nat.le_of_ble_eq_true rfl, Nat.le_of_ble_eq_true rfl⟩) (va_recv hK.1 hP (ci := 4) (q0 := 30) rfl rfl) (hP.sub [30, 31, 32, 33, 34, 35] rfl) hK1 rfl hl.1 rfl (Nat.le_of_ble_eq_true rfl) dX1_refresh_46 ⟨Nat.zero_le _, Nat.zero_le _⟩ ?_
      refine x_tp (y := spK a m i) (stp_eq hLo hj hje) ?_
      refine x_iast hx hb hK hP hD hS 1 0 rfl rfl (k := i) (by omega) (by decide) dX1_refresh_49 (fun H locs hP hD hS => ?_)
      have hP : va_P D vwCl (lyX c cA cC sl (r1X (clX X Cc) (upd f i (spK a m i))) ++ noW c cA n a ++ svW c cA m lo a) H := hP
      have hD : va_D (va_A (lyX c cA cC sl X ++ noW c cA n a ++ svW c cA m lo a) sz) (lyX c cA cC sl (r1X (clX X Cc) (upd f i (spK a m i))) ++ noW c cA n a ++ svW c cA m lo a) := hD
      refine lv_iinc (v := nI (i + 1)) (lv' := [(3, .int (nI (i + 1))), (0, .ref (c 14)), (1, .ref (c 7)), (2, .ref (c 1))]) hx hb dX1_refresh_50 hl (k := 3) rfl (x_inc i) (by decide) rfl (fun ls hl => ?_)
      refine lv_goto (tgt := 14) hx hb dX1_refresh_53 (by decide) ?_
      exact ihi (by omega) (upd f i (spK a m i)) _ _ _ (fun k hk => by by_cases h : k = i; (rw [h, pk_us]); (rw [pk_un h]; exact hiI k (by omega))) (lv_sub hl [1, 2, 3, 0] rfl) hP hD hS
  · have e9 : lyX c cA cC False X ++ noW c cA n a ++ svW c cA m lo a = lyX c cA cC sl X ++ noW c cA n a ++ svW c cA m lo a := by rw [eq_false c_4]
    exact w_vret (S0 := lS) (w1 := fun X => lyX c cA cC False X ++ noW c cA n a ++ svW c cA m lo a) X hx hb hr hlk (show va_P D vwCl (lyX c cA cC False X ++ noW c cA n a ++ svW c cA m lo a) _ by rw [e9]; exact hP) (show va_D _ (lyX c cA cC False X ++ noW c cA n a ++ svW c cA m lo a) by rw [e9]; exact hD) hS ⟨hJ, hLK c_4⟩ dX1_refresh_7
