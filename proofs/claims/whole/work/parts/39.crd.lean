set_option maxHeartbeats 4000000 in
set_option maxRecDepth 100000 in
theorem k5_crowded (l0 : Launch) (D : va_G) (c : Nat → Nat) (cA cC : ClassId) (u : Nat → Int32) (n m : Nat) (lo : Nat → Int32) (a : Nat → Nat → Int32) (sl : Prop) (X : lS) (sz sa : Nat) (p1 : Int32) (hfl : l0.stackTraces = false) (hW : WF n m a) (hLo : LoOK lo a) (hJ : JK X) (hLK : ¬ sl → LK a n m X) : vx_Met l0 yX5_crowded wsX5_crowded ({ frames := 6, cells := 1, slots := 6, locals := 144 }) (xPc D (shW c u ++ svW c cA m lo a ++ noW c cA n a ++ lyX c cA cC sl X) [(cA, .int), (cC, .object "StaffHeads$Chord")] sz sa [.ref (c 0), .int p1]) (va_Qi (fun (r9 : Int32) (x : cS) => r9 = crA x p1 ∧ (okI p1 0 3 → LK a n m (xL x) ∧ ¬ crT x p1 = 0) ∧ cQ u n m lo a x) (wB D (shW c u ++ svW c cA m lo a ++ noW c cA n a ++ lyX c cA cC sl X) sz (cX c cA cC)) (va_A (shW c u ++ svW c cA m lo a ++ noW c cA n a ++ lyX c cA cC sl X) sz)) (vx_X (fun x : cS => okI p1 0 3 ∧ crT x p1 = 0 ∧ LK a n m (xL x) ∧ cQ u n m lo a x) (fun E x t => E = nAE ∧ wB D (shW c u ++ svW c cA m lo a ++ noW c cA n a ++ lyX c cA cC sl X) sz (cX c cA cC) x t) (va_A (shW c u ++ svW c cA m lo a ++ noW c cA n a ++ lyX c cA cC sl X) sz)) 1 6 (va_A (shW c u ++ svW c cA m lo a ++ noW c cA n a ++ lyX c cA cC sl X) sz) := by
  refine x_head (C := RX5) (cc := cX5_crowded) (maxL := 6) (ret := (some .int)) [(0, .ref (c 0)), (1, .int p1)] (by decide) rfl rfl (Nat.le_of_ble_eq_true rfl) rfl ?_
  intro p e s mi below meth cd hx hb hr hlk hml hown hin hts hP hD hS hA hK hZ hno ls hl
  have hiX10 : ∀ w ∈ wsX10, w ∈ wsX5_crowded := fun w h => List.mem_cons_of_mem _ (List.mem_append_left _ (List.mem_append_left _ (List.mem_append_left _ (List.mem_append_left _ (List.mem_append_left _ (List.mem_append_right _ h))))))
  have hiX50 : ∀ w ∈ wsX50, w ∈ wsX5_crowded := fun w h => List.mem_cons_of_mem _ (List.mem_append_left _ (List.mem_append_left _ (List.mem_append_left _ (List.mem_append_left _ (List.mem_append_left _ (List.mem_append_left _ (List.mem_append_right _ h)))))))
  have f0 := hts (.fieldLink RX5 26 "StaffHeads" "layout" "LStaffHeads$Layout;") (List.mem_of_getElem? (i := 3) rfl)
  have f1 := hts (.fieldLink RX5 19 "StaffHeads" "notes" "LStaffHeads$Notes;") (List.mem_of_getElem? (i := 4) rfl)
  have f2 := hts (.fieldLink RX5 10 "StaffHeads" "staves" "LStaffHeads$Staves;") (List.mem_of_getElem? (i := 5) rfl)
  have f3 := hts (.classLink RX5 163 "java/lang/ArithmeticException") (List.mem_of_getElem? (i := 1) rfl)
  have f4 := hts (.initialized "java/lang/ArithmeticException") (List.mem_of_getElem? (i := 2) rfl)
  have f5 := hts (.fieldLink RX5 133 "StaffHeads$Layout" "noteCount" "[I") (List.mem_of_getElem? (i := 6) rfl)
  have f6 := hts (.fieldLink RX5 160 "StaffHeads$Layout" "mostMoved" "[I") (List.mem_of_getElem? (i := 7) rfl)
  have hK1 : kK D [(cA, .int)] s := ⟨hK.1.sub [0] rfl, hK.2⟩
  have hn : n ≤ 60 := hW.1
  have hm : m ≤ 12 := hW.2.1
  refine lv_iload_n hx hb dX5_crowded_0 rfl (lv_at hl 1 rfl) ?_
  refine rcSi (As := [.int p1]) (rest := []) ⟨hx, hb, hml, hown, hts⟩ (k5_isStaff l0 p1) (va_cwS 1 hts gX5_crowded_X5_isStaff rfl rfl rfl (by decide +kernel) ⟨Nat.le_of_ble_eq_true rfl, Nat.le_of_ble_eq_true rfl⟩) rfl hl.1 rfl (Nat.le_of_ble_eq_true rfl) dX5_crowded_1 ⟨Nat.zero_le _, Nat.zero_le _⟩ ?_
  refine x_ifne (tgt := 11) hx hb dX5_crowded_4 (by decide) (fun (c_4 : okI p1 0 3) => ?_) (fun (c_4 : ¬ (okI p1 0 3)) => ?_)
  · have hj := okI_nat (N := 3) (by decide) c_4
    refine lv_aload_n hx hb dX5_crowded_11 rfl (lv_at hl 0 rfl) ?_
    refine va_get (D := D) (ci := 5) (v := .ref (c 14)) (C := RX5) (T := TX5) (N := 7) hx hb hts hiX50 hown hK.1 hP 0 rfl rfl 3 (by decide) f0 (fun _ h9 => h9) rfl dX5_crowded_12 ?_
    refine lv_aload_n hx hb dX5_crowded_15 rfl (lv_at hl 0 rfl) ?_
    refine va_get (D := D) (ci := 5) (v := .ref (c 7)) (C := RX5) (T := TX5) (N := 7) hx hb hts hiX50 hown hK.1 hP 0 rfl rfl 2 (by decide) f1 (fun _ h9 => h9) rfl dX5_crowded_16 ?_
    refine lv_aload_n hx hb dX5_crowded_19 rfl (lv_at hl 0 rfl) ?_
    refine va_get (D := D) (ci := 5) (v := .ref (c 1)) (C := RX5) (T := TX5) (N := 7) hx hb hts hiX50 hown hK.1 hP 0 rfl rfl 1 (by decide) f2 (fun _ h9 => h9) rfl dX5_crowded_20 ?_
    refine wcVv (S0 := lS) (wr := shW c u) (As := [.ref (c 7), .ref (c 1)]) (rest := []) ⟨hx, hb, hml, hown, hts⟩ (k1_refresh l0 D c cA cC sl X n m lo a _ hW hLo hJ hLK) (cwV 2 hts gX5_crowded_X1_refresh rfl rfl rfl (by decide +kernel) ⟨Nat.le_of_ble_eq_true rfl, Nat.le_of_ble_eq_true rfl⟩) (va_recv hK.1 hP (ci := 1) (q0 := 14) rfl rfl) hP hD hS hA hK [14, 15, 16, 17, 18, 19, 20, 21, 22, 23, 24, 25, 26, 27, 28, 29, 30, 31, 32, 33, 34, 35, 36, 7, 8, 9, 10, 11, 12, 13, 1, 2, 3, 4, 5, 6] [0] rfl rfl (by decide) (by decide) (by decide) rfl hl.1 rfl (Nat.le_of_ble_eq_true rfl) dX5_crowded_23 ⟨Nat.zero_le _, Nat.zero_le _⟩ (fun X1 H locs hX1 hP hD hS => ?_)
    have hP : va_P D vwCl (shW c u ++ svW c cA m lo a ++ noW c cA n a ++ lyX c cA cC False X1) H := hP.sub [0, 31, 32, 33, 34, 35, 36, 24, 25, 26, 27, 28, 29, 30, 1, 2, 3, 4, 5, 6, 7, 8, 9, 10, 11, 12, 13, 14, 15, 16, 17, 18, 19, 20, 21, 22, 23] rfl
    have hD : va_D (va_A (shW c u ++ svW c cA m lo a ++ noW c cA n a ++ lyX c cA cC sl X) sz) (shW c u ++ svW c cA m lo a ++ noW c cA n a ++ lyX c cA cC False X1) := hD.sub [0, 31, 32, 33, 34, 35, 36, 24, 25, 26, 27, 28, 29, 30, 1, 2, 3, 4, 5, 6, 7, 8, 9, 10, 11, 12, 13, 14, 15, 16, 17, 18, 19, 20, 21, 22, 23] (by decide) rfl
    refine lv_iconst (v := 0) hx hb dX5_crowded_26 (by decide) ?_
    refine x_tp (y := nI (cTks (X1.1 9) p1.toNatClampNeg 0)) (show (0 : Int32) = nI 0 from rfl) ?_
    refine lv_istore_n (lv' := [(2, .int (nI (cTks (X1.1 9) p1.toNatClampNeg 0))), (0, .ref (c 0)), (1, .int p1)]) hx hb dX5_crowded_27 rfl hl (by decide) rfl (fun ls hl => ?_)
    refine lv_iconst (v := 0) hx hb dX5_crowded_28 (by decide) ?_
    refine x_tp (y := nI (cCrd (X1.1 12) p1.toNatClampNeg 0)) (show (0 : Int32) = nI 0 from rfl) ?_
    refine lv_istore_n (lv' := [(3, .int (nI (cCrd (X1.1 12) p1.toNatClampNeg 0))), (2, .int (nI (cTks (X1.1 9) p1.toNatClampNeg 0))), (0, .ref (c 0)), (1, .int p1)]) hx hb dX5_crowded_29 rfl hl (by decide) rfl (fun ls hl => ?_)
    refine lv_iconst (v := 0) hx hb dX5_crowded_30 (by decide) ?_
    refine x_tp (y := nI 0) nI_0.symm ?_
    refine lv_istore (lv' := [(4, .int (nI 0)), (3, .int (nI (cCrd (X1.1 12) p1.toNatClampNeg 0))), (2, .int (nI (cTks (X1.1 9) p1.toNatClampNeg 0))), (0, .ref (c 0)), (1, .int p1)]) hx hb dX5_crowded_31 hl (by decide) rfl (fun ls hl => ?_)
    refine lpR (G := fun ls => W p _ e _ s mi _ below meth cd _ _ _ _ _ (F0 mi 33 ls [])) 6 100 (fun t (_ : Unit) => [(0, .ref (c 0)), (1, .int p1), (2, .int (nI (cTks (X1.1 9) p1.toNatClampNeg t))), (3, .int (nI (cCrd (X1.1 12) p1.toNatClampNeg t))), (4, .int (nI t))]) (fun _ _ => True) ?_ 0 () (Nat.zero_le _) trivial (lv_sub hl [3, 4, 2, 1, 0] rfl)
    clear hl ls
    intro t gu ht htI ls hl iht
    refine lv_iload hx hb dX5_crowded_33 (lv_at hl 4 rfl) ?_
    refine lv_bipush (v := 100) hx hb dX5_crowded_35 (by decide) ?_
    refine x_tp (y := nI 100) (show (100 : Int32) = nI 100 from rfl) ?_
    refine x_nge (tgt := 96) hx hb dX5_crowded_37 (by decide) (by omega) (by omega) (fun c_37 => ?_) (fun c_37 => ?_)
    · obtain rfl : 100 = t := by omega
      have hTk := cTks_le (X1.1 9) p1.toNatClampNeg 100
      refine lv_iload_n hx hb dX5_crowded_96 rfl (lv_at hl 2 rfl) ?_
      refine lv_if_ne (tgt := 110) hx hb dX5_crowded_97 (by decide) (fun c_97 => ?_) (fun c_97 => ?_)
      · have c_97 : ¬ cTks (X1.1 9) p1.toNatClampNeg 100 = 0 := fun q => c_97 (by rw [q]; rfl)
        refine lv_sipush (v := 1000) hx hb dX5_crowded_110 (by decide) ?_
        refine lv_iload_n hx hb dX5_crowded_113 rfl (lv_at hl 3 rfl) ?_
        refine lv_imul hx hb dX5_crowded_114 ?_
        refine lv_iload_n hx hb dX5_crowded_115 rfl (lv_at hl 2 rfl) ?_
        refine lv_idiv hx hb dX5_crowded_116 (fun h => c_97 ((nI_eq (b := 0) (by omega) (by decide)).mp h)) ?_
        exact W.widen (k := 1) (n := 6) (Nat.zero_le _) (Nat.zero_le _) (vx_ret (w_iret (S0 := cS) (w1 := cX c cA cC) (u, n, m, lo, a, False, X1) hx hb hr hlk hP hD hS ⟨(by rw [crA, if_pos c_4]), (fun _ => ⟨hX1.2, c_97⟩), _, _, rfl, hX1.1, fun _ => hX1.2⟩ dX5_crowded_117))
      · have c_97 : cTks (X1.1 9) p1.toNatClampNeg 100 = 0 := (nI_eq (b := 0) (by omega) (by decide)).mp c_97
        have hat : ∀ w ∈ vx_atS RX5 167 nAE ["java/lang/RuntimeException", "java/lang/Exception"], w.before _ s = true := vx_hat (fun w h => hts w (List.mem_cons_of_mem _ (List.mem_append_right _ h))) crBad (vx_c (hZ.2.2.1.use rfl) (vx_c (hZ.2.2.2.1.use rfl) (vx_c (hZ.2.2.2.2.1.use rfl) (vx_c (hZ.2.2.2.2.2.use rfl) vx_n))))
        exact vx_throwS (own := RX5) (cls := nAE) (text := "the staff has no notes") (names := ["java/lang/RuntimeException", "java/lang/Exception"]) (ik := 163) (is := 165) (ic := 167) (A := (va_A (shW c u ++ svW c cA m lo a ++ noW c cA n a ++ lyX c cA cC sl X) sz)) hx hb hfl hown (by decide) (by decide) f3 f4 hZ.1 hat crGood hZ.2.1.1 hZ.2.1.2 hS (hl.1.trans hml.symm) dX5_crowded_100 dX5_crowded_103 dX5_crowded_104 dX5_crowded_106 dX5_crowded_109 (fun x9 h9 => (hno x9 h9).elim) (by decide) (by decide) (Nat.le_of_ble_eq_true rfl) (Nat.le_of_ble_eq_true rfl) hlk (fun t9 _ hz9 hk9 => ⟨(u, n, m, lo, a, False, X1), ⟨c_4, c_97, hX1.2, _, _, rfl, hX1.1, fun _ => hX1.2⟩, ⟨rfl, hP.kept (fun k q hq => hk9 q.1 (vx_lt hP hq)), hD⟩, ⟨Nat.le_trans hS.1 hz9, fun q h1 h2 => (hk9 q (Nat.lt_of_lt_of_le h1 hS.1)).trans (hS.2.1 q h1 h2)⟩⟩) hS.2.2 (Nat.le_of_ble_eq_true rfl) (Nat.le_of_ble_eq_true rfl)
    · refine lv_iload_n hx hb dX5_crowded_40 rfl (lv_at hl 1 rfl) ?_
      refine lv_iload hx hb dX5_crowded_41 (lv_at hl 4 rfl) ?_
      refine rcSi (As := [.int p1, .int (nI t)]) (rest := []) ⟨hx, hb, hml, hown, hts⟩ (k5_cellOf l0 p1 (nI t)) (va_cwS 2 hts gX5_crowded_X5_cellOf rfl rfl rfl (by decide +kernel) ⟨Nat.le_of_ble_eq_true rfl, Nat.le_of_ble_eq_true rfl⟩) rfl hl.1 rfl (Nat.le_of_ble_eq_true rfl) dX5_crowded_43 ⟨Nat.zero_le _, Nat.zero_le _⟩ ?_
      refine x_tp (y := nI (p1.toNatClampNeg * 100 + t)) (cell_pp hj.1 rfl) ?_
      refine lv_istore (lv' := [(5, .int (nI (p1.toNatClampNeg * 100 + t))), (0, .ref (c 0)), (1, .int p1), (2, .int (nI (cTks (X1.1 9) p1.toNatClampNeg t))), (3, .int (nI (cCrd (X1.1 12) p1.toNatClampNeg t))), (4, .int (nI t))]) hx hb dX5_crowded_46 hl (by decide) rfl (fun ls hl => ?_)
      refine lv_iload_n hx hb dX5_crowded_48 rfl (lv_at hl 3 rfl) ?_
      refine lv_aload_n hx hb dX5_crowded_49 rfl (lv_at hl 1 rfl) ?_
      refine va_get (D := D) (ci := 5) (v := .ref (c 14)) (C := RX5) (T := TX5) (N := 7) hx hb hts hiX50 hown hK.1 hP 0 rfl rfl 3 (by decide) f0 (fun _ h9 => h9) rfl dX5_crowded_50 ?_
      refine va_get (D := D) (ci := 1) (v := .ref (c 23)) (C := RX1) (T := TX1) (N := 15) hx hb hts hiX10 hown hK.1 hP 14 rfl rfl 9 (by decide) f5 (fun _ h9 => h9) rfl dX5_crowded_53 ?_
      refine lv_iload hx hb dX5_crowded_56 (lv_at hl 0 rfl) ?_
      refine x_iald hx hb hK hP 23 0 rfl rfl (k := (p1.toNatClampNeg * 100 + t)) (by omega) (by decide) dX5_crowded_58 ?_
      refine x_cle (tgt := 66) hx hb dX5_crowded_59 (by decide) (fun c_59 => ?_) (fun c_59 => ?_)
      · refine lv_iconst (v := 0) hx hb dX5_crowded_66 (by decide) ?_
        refine lv_iadd hx hb dX5_crowded_67 ?_
        refine x_tp (y := nI (cTks (X1.1 9) p1.toNatClampNeg (t + 1))) (by rw [cTks, if_neg c_59]; exact Int32.add_zero _) ?_
        refine lv_istore_n (lv' := [(2, .int (nI (cTks (X1.1 9) p1.toNatClampNeg (t + 1)))), (5, .int (nI (p1.toNatClampNeg * 100 + t))), (0, .ref (c 0)), (1, .int p1), (3, .int (nI (cCrd (X1.1 12) p1.toNatClampNeg t))), (4, .int (nI t))]) hx hb dX5_crowded_68 rfl hl (by decide) rfl (fun ls hl => ?_)
        refine lv_iload_n hx hb dX5_crowded_69 rfl (lv_at hl 4 rfl) ?_
        refine lv_aload_n hx hb dX5_crowded_70 rfl (lv_at hl 2 rfl) ?_
        refine va_get (D := D) (ci := 5) (v := .ref (c 14)) (C := RX5) (T := TX5) (N := 7) hx hb hts hiX50 hown hK.1 hP 0 rfl rfl 3 (by decide) f0 (fun _ h9 => h9) rfl dX5_crowded_71 ?_
        refine va_get (D := D) (ci := 1) (v := .ref (c 26)) (C := RX1) (T := TX1) (N := 15) hx hb hts hiX10 hown hK.1 hP 14 rfl rfl 12 (by decide) f6 (fun _ h9 => h9) rfl dX5_crowded_74 ?_
        refine lv_iload hx hb dX5_crowded_77 (lv_at hl 1 rfl) ?_
        refine x_iald hx hb hK hP 26 0 rfl rfl (k := (p1.toNatClampNeg * 100 + t)) (by omega) (by decide) dX5_crowded_79 ?_
        refine x_cle (tgt := 87) hx hb dX5_crowded_80 (by decide) (fun c_80 => ?_) (fun c_80 => ?_)
        · refine lv_iconst (v := 0) hx hb dX5_crowded_87 (by decide) ?_
          refine lv_iadd hx hb dX5_crowded_88 ?_
          refine x_tp (y := nI (cCrd (X1.1 12) p1.toNatClampNeg (t + 1))) (by rw [cCrd, if_neg c_80]; exact Int32.add_zero _) ?_
          refine lv_istore_n (lv' := [(3, .int (nI (cCrd (X1.1 12) p1.toNatClampNeg (t + 1)))), (2, .int (nI (cTks (X1.1 9) p1.toNatClampNeg (t + 1)))), (5, .int (nI (p1.toNatClampNeg * 100 + t))), (0, .ref (c 0)), (1, .int p1), (4, .int (nI t))]) hx hb dX5_crowded_89 rfl hl (by decide) rfl (fun ls hl => ?_)
          refine lv_iinc (v := nI (t + 1)) (lv' := [(4, .int (nI (t + 1))), (3, .int (nI (cCrd (X1.1 12) p1.toNatClampNeg (t + 1)))), (2, .int (nI (cTks (X1.1 9) p1.toNatClampNeg (t + 1)))), (5, .int (nI (p1.toNatClampNeg * 100 + t))), (0, .ref (c 0)), (1, .int p1)]) hx hb dX5_crowded_90 hl (k := 5) rfl (x_inc t) (by decide) rfl (fun ls hl => ?_)
          refine lv_goto (tgt := 33) hx hb dX5_crowded_93 (by decide) ?_
          exact iht (by omega) () _ trivial (lv_sub hl [4, 5, 2, 1, 0] rfl)
        · refine lv_iconst (v := 1) hx hb dX5_crowded_83 (by decide) ?_
          refine lv_goto (tgt := 88) hx hb dX5_crowded_84 (by decide) ?_
          refine lv_iadd hx hb dX5_crowded_88 ?_
          refine x_tp (y := nI (cCrd (X1.1 12) p1.toNatClampNeg (t + 1))) (by rw [cCrd, if_pos c_80]; exact nI_1 _) ?_
          refine lv_istore_n (lv' := [(3, .int (nI (cCrd (X1.1 12) p1.toNatClampNeg (t + 1)))), (2, .int (nI (cTks (X1.1 9) p1.toNatClampNeg (t + 1)))), (5, .int (nI (p1.toNatClampNeg * 100 + t))), (0, .ref (c 0)), (1, .int p1), (4, .int (nI t))]) hx hb dX5_crowded_89 rfl hl (by decide) rfl (fun ls hl => ?_)
          refine lv_iinc (v := nI (t + 1)) (lv' := [(4, .int (nI (t + 1))), (3, .int (nI (cCrd (X1.1 12) p1.toNatClampNeg (t + 1)))), (2, .int (nI (cTks (X1.1 9) p1.toNatClampNeg (t + 1)))), (5, .int (nI (p1.toNatClampNeg * 100 + t))), (0, .ref (c 0)), (1, .int p1)]) hx hb dX5_crowded_90 hl (k := 5) rfl (x_inc t) (by decide) rfl (fun ls hl => ?_)
          refine lv_goto (tgt := 33) hx hb dX5_crowded_93 (by decide) ?_
          exact iht (by omega) () _ trivial (lv_sub hl [4, 5, 2, 1, 0] rfl)
      · refine lv_iconst (v := 1) hx hb dX5_crowded_62 (by decide) ?_
        refine lv_goto (tgt := 67) hx hb dX5_crowded_63 (by decide) ?_
        refine lv_iadd hx hb dX5_crowded_67 ?_
        refine x_tp (y := nI (cTks (X1.1 9) p1.toNatClampNeg (t + 1))) (by rw [cTks, if_pos c_59]; exact nI_1 _) ?_
        refine lv_istore_n (lv' := [(2, .int (nI (cTks (X1.1 9) p1.toNatClampNeg (t + 1)))), (5, .int (nI (p1.toNatClampNeg * 100 + t))), (0, .ref (c 0)), (1, .int p1), (3, .int (nI (cCrd (X1.1 12) p1.toNatClampNeg t))), (4, .int (nI t))]) hx hb dX5_crowded_68 rfl hl (by decide) rfl (fun ls hl => ?_)
        refine lv_iload_n hx hb dX5_crowded_69 rfl (lv_at hl 4 rfl) ?_
        refine lv_aload_n hx hb dX5_crowded_70 rfl (lv_at hl 2 rfl) ?_
        refine va_get (D := D) (ci := 5) (v := .ref (c 14)) (C := RX5) (T := TX5) (N := 7) hx hb hts hiX50 hown hK.1 hP 0 rfl rfl 3 (by decide) f0 (fun _ h9 => h9) rfl dX5_crowded_71 ?_
        refine va_get (D := D) (ci := 1) (v := .ref (c 26)) (C := RX1) (T := TX1) (N := 15) hx hb hts hiX10 hown hK.1 hP 14 rfl rfl 12 (by decide) f6 (fun _ h9 => h9) rfl dX5_crowded_74 ?_
        refine lv_iload hx hb dX5_crowded_77 (lv_at hl 1 rfl) ?_
        refine x_iald hx hb hK hP 26 0 rfl rfl (k := (p1.toNatClampNeg * 100 + t)) (by omega) (by decide) dX5_crowded_79 ?_
        refine x_cle (tgt := 87) hx hb dX5_crowded_80 (by decide) (fun c_80 => ?_) (fun c_80 => ?_)
        · refine lv_iconst (v := 0) hx hb dX5_crowded_87 (by decide) ?_
          refine lv_iadd hx hb dX5_crowded_88 ?_
          refine x_tp (y := nI (cCrd (X1.1 12) p1.toNatClampNeg (t + 1))) (by rw [cCrd, if_neg c_80]; exact Int32.add_zero _) ?_
          refine lv_istore_n (lv' := [(3, .int (nI (cCrd (X1.1 12) p1.toNatClampNeg (t + 1)))), (2, .int (nI (cTks (X1.1 9) p1.toNatClampNeg (t + 1)))), (5, .int (nI (p1.toNatClampNeg * 100 + t))), (0, .ref (c 0)), (1, .int p1), (4, .int (nI t))]) hx hb dX5_crowded_89 rfl hl (by decide) rfl (fun ls hl => ?_)
          refine lv_iinc (v := nI (t + 1)) (lv' := [(4, .int (nI (t + 1))), (3, .int (nI (cCrd (X1.1 12) p1.toNatClampNeg (t + 1)))), (2, .int (nI (cTks (X1.1 9) p1.toNatClampNeg (t + 1)))), (5, .int (nI (p1.toNatClampNeg * 100 + t))), (0, .ref (c 0)), (1, .int p1)]) hx hb dX5_crowded_90 hl (k := 5) rfl (x_inc t) (by decide) rfl (fun ls hl => ?_)
          refine lv_goto (tgt := 33) hx hb dX5_crowded_93 (by decide) ?_
          exact iht (by omega) () _ trivial (lv_sub hl [4, 5, 2, 1, 0] rfl)
        · refine lv_iconst (v := 1) hx hb dX5_crowded_83 (by decide) ?_
          refine lv_goto (tgt := 88) hx hb dX5_crowded_84 (by decide) ?_
          refine lv_iadd hx hb dX5_crowded_88 ?_
          refine x_tp (y := nI (cCrd (X1.1 12) p1.toNatClampNeg (t + 1))) (by rw [cCrd, if_pos c_80]; exact nI_1 _) ?_
          refine lv_istore_n (lv' := [(3, .int (nI (cCrd (X1.1 12) p1.toNatClampNeg (t + 1)))), (2, .int (nI (cTks (X1.1 9) p1.toNatClampNeg (t + 1)))), (5, .int (nI (p1.toNatClampNeg * 100 + t))), (0, .ref (c 0)), (1, .int p1), (4, .int (nI t))]) hx hb dX5_crowded_89 rfl hl (by decide) rfl (fun ls hl => ?_)
          refine lv_iinc (v := nI (t + 1)) (lv' := [(4, .int (nI (t + 1))), (3, .int (nI (cCrd (X1.1 12) p1.toNatClampNeg (t + 1)))), (2, .int (nI (cTks (X1.1 9) p1.toNatClampNeg (t + 1)))), (5, .int (nI (p1.toNatClampNeg * 100 + t))), (0, .ref (c 0)), (1, .int p1)]) hx hb dX5_crowded_90 hl (k := 5) rfl (x_inc t) (by decide) rfl (fun ls hl => ?_)
          refine lv_goto (tgt := 33) hx hb dX5_crowded_93 (by decide) ?_
          exact iht (by omega) () _ trivial (lv_sub hl [4, 5, 2, 1, 0] rfl)
  · refine lv_sipush (v := (-1001)) hx hb dX5_crowded_7 (by decide) ?_
    exact W.widen (k := 1) (n := 6) (Nat.zero_le _) (Nat.zero_le _) (vx_ret (w_iret (S0 := cS) (w1 := cX c cA cC) (u, n, m, lo, a, sl, X) hx hb hr hlk hP hD hS ⟨(by rw [crA, if_neg c_4]), (fun h => absurd h c_4), _, _, rfl, hJ, hLK⟩ dX5_crowded_10))
