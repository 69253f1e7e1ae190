theorem cell_pp {x y : Int32} {i j : Nat} (h1 : x = nI i) (h2 : y = nI j) : x * 100 + y = nI (i * 100 + j) := by rw [h1, h2]; exact cell_nI _ _

set_option maxHeartbeats 4000000 in
set_option maxRecDepth 100000 in
theorem k5_of (l0 : Launch) (D : va_G) (c : Nat → Nat) (cA cC : ClassId) (u : Nat → Int32) (n m : Nat) (lo : Nat → Int32) (a : Nat → Nat → Int32) (sl : Prop) (X : lS) (sz : Nat) (p1 p2 : Int32) (hW : WF n m a) (hLo : LoOK lo a) (hJ : JK X) (hLK : ¬ sl → LK a n m X) : Met l0 yX5_of wsX5_of ({ frames := 6, cells := 0, slots := 0, locals := 144 }) (wPc D (shW c u ++ svW c cA m lo a ++ noW c cA n a ++ lyX c cA cC sl X) [(cA, .int), (cC, .object "StaffHeads$Chord")] sz [.ref (c 0), .int p1, .int p2]) (va_Qi (fun (r9 : Int32) (x : cS) => r9 = (if okI p1 0 (nI n - 1) then ofAns p2 ((xL x).1 1 p1.toNatClampNeg) ((xL x).1 2 p1.toNatClampNeg) ((xL x).1 3 p1.toNatClampNeg) ((xL x).1 4 p1.toNatClampNeg + (xL x).1 3 p1.toNatClampNeg) (nI ((xL x).2.1 p1.toNatClampNeg)) ((xL x).1 4 p1.toNatClampNeg) ((xL x).1 5 p1.toNatClampNeg) else -1001) ∧ (okI p1 0 (nI n - 1) → LK a n m (xL x)) ∧ cQ u n m lo a x) (wB D (shW c u ++ svW c cA m lo a ++ noW c cA n a ++ lyX c cA cC sl X) sz (cX c cA cC)) (va_A (shW c u ++ svW c cA m lo a ++ noW c cA n a ++ lyX c cA cC sl X) sz)) 0 0 (va_A (shW c u ++ svW c cA m lo a ++ noW c cA n a ++ lyX c cA cC sl X) sz) := by
  refine w_head (C := RX5) (cc := cX5_of) (maxL := 4) (ret := (some .int)) [(0, .ref (c 0)), (1, .int p1), (2, .int p2)] (by decide) rfl rfl (Nat.le_of_ble_eq_true rfl) rfl ?_
  intro p e s mi below meth cd hx hb hr hlk hml hown hin hts hP hD hS hA hK ls hl
  have hiX10 : ∀ w ∈ wsX10, w ∈ wsX5_of := fun w h => List.mem_cons_of_mem _ (List.mem_append_left _ (List.mem_append_left _ (List.mem_append_left _ (List.mem_append_left _ (List.mem_append_right _ h)))))
  have hiX50 : ∀ w ∈ wsX50, w ∈ wsX5_of := fun w h => List.mem_cons_of_mem _ (List.mem_append_left _ (List.mem_append_left _ (List.mem_append_left _ (List.mem_append_left _ (List.mem_append_left _ (List.mem_append_right _ h))))))
  have f0 := hts (.fieldLink RX5 19 "StaffHeads" "notes" "LStaffHeads$Notes;") (List.mem_of_getElem? (i := 1) rfl)
  have f1 := hts (.fieldLink RX5 26 "StaffHeads" "layout" "LStaffHeads$Layout;") (List.mem_of_getElem? (i := 2) rfl)
  have f2 := hts (.fieldLink RX5 10 "StaffHeads" "staves" "LStaffHeads$Staves;") (List.mem_of_getElem? (i := 3) rfl)
  have f3 := hts (.fieldLink RX5 96 "StaffHeads$Layout" "step" "[I") (List.mem_of_getElem? (i := 4) rfl)
  have f4 := hts (.fieldLink RX5 99 "StaffHeads$Layout" "stem" "[I") (List.mem_of_getElem? (i := 5) rfl)
  have f5 := hts (.fieldLink RX5 102 "StaffHeads$Layout" "aside" "[I") (List.mem_of_getElem? (i := 6) rfl)
  have f6 := hts (.fieldLink RX5 105 "StaffHeads$Layout" "moved" "[I") (List.mem_of_getElem? (i := 7) rfl)
  have f7 := hts (.fieldLink RX5 108 "StaffHeads$Layout" "signColumn" "[I") (List.mem_of_getElem? (i := 8) rfl)
  have f8 := hts (.fieldLink RX5 111 "StaffHeads$Layout" "chordSize" "[I") (List.mem_of_getElem? (i := 9) rfl)
  have hK1 : kK D [(cA, .int)] s := ⟨hK.1.sub [0] rfl, hK.2⟩
  have hn : n ≤ 60 := hW.1
  have hm : m ≤ 12 := hW.2.1
  refine lv_aload_n hx hb dX5_of_0 rfl (lv_at hl 0 rfl) ?_
  refine va_get (D := D) (ci := 5) (v := .ref (c 7)) (C := RX5) (T := TX5) (N := 7) hx hb hts hiX50 hown hK.1 hP 0 rfl rfl 2 (by decide) f0 (fun _ h9 => h9) rfl dX5_of_1 ?_
  refine lv_iload_n hx hb dX5_of_4 rfl (lv_at hl 1 rfl) ?_
  refine rcVi (As := [.int p1]) (rest := []) ⟨hx, hb, hml, hown, hts⟩ (k2_has l0 D c cA n a p1 ) (cwV 1 hts gX5_of_X2_has rfl rfl rfl (by decide +kernel) ⟨Nat.le_of_ble_eq_true rfl, Nat.le_of_ble_eq_true rfl⟩) (va_recv hK.1 hP (ci := 2) (q0 := 7) rfl rfl) (hP.sub [7, 8, 9, 10, 11, 12, 13] rfl) hK1 rfl hl.1 rfl (Nat.le_of_ble_eq_true rfl) dX5_of_5 ⟨Nat.zero_le _, Nat.zero_le _⟩ ?_
  refine x_ifne (tgt := 15) hx hb dX5_of_8 (by decide) (fun (c_8 : okI p1 0 (nI n - 1)) => ?_) (fun (c_8 : ¬ (okI p1 0 (nI n - 1))) => ?_)
  · have hj := ok_note hn c_8
    refine lv_aload_n hx hb dX5_of_15 rfl (lv_at hl 0 rfl) ?_
    refine va_get (D := D) (ci := 5) (v := .ref (c 14)) (C := RX5) (T := TX5) (N := 7) hx hb hts hiX50 hown hK.1 hP 0 rfl rfl 3 (by decide) f1 (fun _ h9 => h9) rfl dX5_of_16 ?_
    refine lv_aload_n hx hb dX5_of_19 rfl (lv_at hl 0 rfl) ?_
    refine va_get (D := D) (ci := 5) (v := .ref (c 7)) (C := RX5) (T := TX5) (N := 7) hx hb hts hiX50 hown hK.1 hP 0 rfl rfl 2 (by decide) f0 (fun _ h9 => h9) rfl dX5_of_20 ?_
    refine lv_aload_n hx hb dX5_of_23 rfl (lv_at hl 0 rfl) ?_
    refine va_get (D := D) (ci := 5) (v := .ref (c 1)) (C := RX5) (T := TX5) (N := 7) hx hb hts hiX50 hown hK.1 hP 0 rfl rfl 1 (by decide) f2 (fun _ h9 => h9) rfl dX5_of_24 ?_
    refine wcVv (S0 := lS) (wr := shW c u) (As := [.ref (c 7), .ref (c 1)]) (rest := []) ⟨hx, hb, hml, hown, hts⟩ (k1_refresh l0 D c cA cC sl X n m lo a _ hW hLo hJ hLK) (cwV 2 hts gX5_of_X1_refresh rfl rfl rfl (by decide +kernel) ⟨Nat.le_of_ble_eq_true rfl, Nat.le_of_ble_eq_true rfl⟩) (va_recv hK.1 hP (ci := 1) (q0 := 14) rfl rfl) hP hD hS hA hK [14, 15, 16, 17, 18, 19, 20, 21, 22, 23, 24, 25, 26, 27, 28, 29, 30, 31, 32, 33, 34, 35, 36, 7, 8, 9, 10, 11, 12, 13, 1, 2, 3, 4, 5, 6] [0] rfl rfl (by decide) (by decide) (by decide) rfl hl.1 rfl (Nat.le_of_ble_eq_true rfl) dX5_of_27 ⟨Nat.zero_le _, Nat.zero_le _⟩ (fun X1 H locs hX1 hP hD hS => ?_)
    have hP : va_P D vwCl (shW c u ++ svW c cA m lo a ++ noW c cA n a ++ lyX c cA cC False X1) H := hP.sub [0, 31, 32, 33, 34, 35, 36, 24, 25, 26, 27, 28, 29, 30, 1, 2, 3, 4, 5, 6, 7, 8, 9, 10, 11, 12, 13, 14, 15, 16, 17, 18, 19, 20, 21, 22, 23] rfl
    have hD : va_D (va_A (shW c u ++ svW c cA m lo a ++ noW c cA n a ++ lyX c cA cC sl X) sz) (shW c u ++ svW c cA m lo a ++ noW c cA n a ++ lyX c cA cC False X1) := hD.sub [0, 31, 32, 33, 34, 35, 36, 24, 25, 26, 27, 28, 29, 30, 1, 2, 3, 4, 5, 6, 7, 8, 9, 10, 11, 12, 13, 14, 15, 16, 17, 18, 19, 20, 21, 22, 23] (by decide) rfl
    refine lv_aload_n hx hb dX5_of_30 rfl (lv_at hl 0 rfl) ?_
    refine va_get (D := D) (ci := 5) (v := .ref (c 14)) (C := RX5) (T := TX5) (N := 7) hx hb hts hiX50 hown hK.1 hP 0 rfl rfl 3 (by decide) f1 (fun _ h9 => h9) rfl dX5_of_31 ?_
    refine va_get (D := D) (ci := 1) (v := .ref (c 15)) (C := RX1) (T := TX1) (N := 15) hx hb hts hiX10 hown hK.1 hP 14 rfl rfl 1 (by decide) f3 (fun _ h9 => h9) rfl dX5_of_34 ?_
    refine lv_iload_n hx hb dX5_of_37 rfl (lv_at hl 1 rfl) ?_
    refine x_tp (y := nI p1.toNatClampNeg) hj.1 ?_
    refine x_iald hx hb hK hP 15 0 rfl rfl (k := p1.toNatClampNeg) (by omega) (by decide) dX5_of_38 ?_
    refine lv_istore_n (lv' := [(3, .int (X1.1 1 p1.toNatClampNeg)), (0, .ref (c 0)), (1, .int p1), (2, .int p2)]) hx hb dX5_of_39 rfl hl (by decide) rfl (fun ls hl => ?_)
    refine lv_iload_n hx hb dX5_of_40 rfl (lv_at hl 3 rfl) ?_
    by_cases hw_0 : p2 = 0
    · refine x_tp (y := 0) hw_0 ?_
      refine lv_tableIn (tgt := 92) hx hb dX5_of_41 (by decide) (by decide) rfl (by decide) ?_
      refine lv_iload_n hx hb dX5_of_92 rfl (lv_at hl 0 rfl) ?_
      exact w_iret (S0 := cS) (w1 := cX c cA cC) (u, n, m, lo, a, False, X1) hx hb hr hlk hP hD hS ⟨(by rw [if_pos c_8, ofAns, if_pos hw_0] <;> rfl), fun _ => hX1.2, _, _, rfl, hX1.1, fun _ => hX1.2⟩ dX5_of_93
    by_cases hw_1 : p2 = 1
    · refine x_tp (y := 1) hw_1 ?_
      refine lv_tableIn (tgt := 94) hx hb dX5_of_41 (by decide) (by decide) rfl (by decide) ?_
      refine lv_iload_n hx hb dX5_of_94 rfl (lv_at hl 0 rfl) ?_
      refine x_cge (tgt := 105) hx hb dX5_of_95 (by decide) (fun c_95 => ?_) (fun c_95 => ?_)
      · refine lv_iconst (v := 0) hx hb dX5_of_105 (by decide) ?_
        exact w_iret (S0 := cS) (w1 := cX c cA cC) (u, n, m, lo, a, False, X1) hx hb hr hlk hP hD hS ⟨(by rw [if_pos c_8, ofAns, if_neg hw_0, if_pos hw_1, if_neg c_95] <;> rfl), fun _ => hX1.2, _, _, rfl, hX1.1, fun _ => hX1.2⟩ dX5_of_106
      · refine lv_iload_n hx hb dX5_of_98 rfl (lv_at hl 0 rfl) ?_
        refine lv_ineg hx hb dX5_of_99 ?_
        refine lv_iconst (v := 2) hx hb dX5_of_100 (by decide) ?_
        refine lv_idiv hx hb dX5_of_101 (by decide) ?_
        refine lv_goto (tgt := 106) hx hb dX5_of_102 (by decide) ?_
        exact w_iret (S0 := cS) (w1 := cX c cA cC) (u, n, m, lo, a, False, X1) hx hb hr hlk hP hD hS ⟨(by rw [if_pos c_8, ofAns, if_neg hw_0, if_pos hw_1, if_pos c_95] <;> rfl), fun _ => hX1.2, _, _, rfl, hX1.1, fun _ => hX1.2⟩ dX5_of_106
    by_cases hw_2 : p2 = 2
    · refine x_tp (y := 2) hw_2 ?_
      refine lv_tableIn (tgt := 107) hx hb dX5_of_41 (by decide) (by decide) rfl (by decide) ?_
      refine lv_iload_n hx hb dX5_of_107 rfl (lv_at hl 0 rfl) ?_
      refine lv_bipush (v := 8) hx hb dX5_of_108 (by decide) ?_
      refine x_ile (tgt := 122) hx hb dX5_of_110 (by decide) (fun c_110 => ?_) (fun c_110 => ?_)
      · refine lv_iconst (v := 0) hx hb dX5_of_122 (by decide) ?_
        exact w_iret (S0 := cS) (w1 := cX c cA cC) (u, n, m, lo, a, False, X1) hx hb hr hlk hP hD hS ⟨(by rw [if_pos c_8, ofAns, if_neg hw_0, if_neg hw_1, if_pos hw_2, if_neg c_110] <;> rfl), fun _ => hX1.2, _, _, rfl, hX1.1, fun _ => hX1.2⟩ dX5_of_123
      · refine lv_iload_n hx hb dX5_of_113 rfl (lv_at hl 0 rfl) ?_
        refine lv_bipush (v := 8) hx hb dX5_of_114 (by decide) ?_
        refine lv_isub hx hb dX5_of_116 ?_
        refine lv_iconst (v := 2) hx hb dX5_of_117 (by decide) ?_
        refine lv_idiv hx hb dX5_of_118 (by decide) ?_
        refine lv_goto (tgt := 123) hx hb dX5_of_119 (by decide) ?_
        exact w_iret (S0 := cS) (w1 := cX c cA cC) (u, n, m, lo, a, False, X1) hx hb hr hlk hP hD hS ⟨(by rw [if_pos c_8, ofAns, if_neg hw_0, if_neg hw_1, if_pos hw_2, if_pos c_110] <;> rfl), fun _ => hX1.2, _, _, rfl, hX1.1, fun _ => hX1.2⟩ dX5_of_123
    by_cases hw_3 : p2 = 3
    · refine x_tp (y := 3) hw_3 ?_
      refine lv_tableIn (tgt := 124) hx hb dX5_of_41 (by decide) (by decide) rfl (by decide) ?_
      refine lv_aload_n hx hb dX5_of_124 rfl (lv_at hl 1 rfl) ?_
      refine va_get (D := D) (ci := 5) (v := .ref (c 14)) (C := RX5) (T := TX5) (N := 7) hx hb hts hiX50 hown hK.1 hP 0 rfl rfl 3 (by decide) f1 (fun _ h9 => h9) rfl dX5_of_125 ?_
      refine va_get (D := D) (ci := 1) (v := .ref (c 16)) (C := RX1) (T := TX1) (N := 15) hx hb hts hiX10 hown hK.1 hP 14 rfl rfl 2 (by decide) f4 (fun _ h9 => h9) rfl dX5_of_128 ?_
      refine lv_iload_n hx hb dX5_of_131 rfl (lv_at hl 2 rfl) ?_
      refine x_tp (y := nI p1.toNatClampNeg) hj.1 ?_
      refine x_iald hx hb hK hP 16 0 rfl rfl (k := p1.toNatClampNeg) (by omega) (by decide) dX5_of_132 ?_
      exact w_iret (S0 := cS) (w1 := cX c cA cC) (u, n, m, lo, a, False, X1) hx hb hr hlk hP hD hS ⟨(by rw [if_pos c_8, ofAns, if_neg hw_0, if_neg hw_1, if_neg hw_2, if_pos hw_3] <;> rfl), fun _ => hX1.2, _, _, rfl, hX1.1, fun _ => hX1.2⟩ dX5_of_133
    by_cases hw_4 : p2 = 4
    · refine x_tp (y := 4) hw_4 ?_
      refine lv_tableIn (tgt := 134) hx hb dX5_of_41 (by decide) (by decide) rfl (by decide) ?_
      refine lv_aload_n hx hb dX5_of_134 rfl (lv_at hl 1 rfl) ?_
      refine va_get (D := D) (ci := 5) (v := .ref (c 14)) (C := RX5) (T := TX5) (N := 7) hx hb hts hiX50 hown hK.1 hP 0 rfl rfl 3 (by decide) f1 (fun _ h9 => h9) rfl dX5_of_135 ?_
      refine va_get (D := D) (ci := 1) (v := .ref (c 17)) (C := RX1) (T := TX1) (N := 15) hx hb hts hiX10 hown hK.1 hP 14 rfl rfl 3 (by decide) f5 (fun _ h9 => h9) rfl dX5_of_138 ?_
      refine lv_iload_n hx hb dX5_of_141 rfl (lv_at hl 2 rfl) ?_
      refine x_tp (y := nI p1.toNatClampNeg) hj.1 ?_
      refine x_iald hx hb hK hP 17 0 rfl rfl (k := p1.toNatClampNeg) (by omega) (by decide) dX5_of_142 ?_
      exact w_iret (S0 := cS) (w1 := cX c cA cC) (u, n, m, lo, a, False, X1) hx hb hr hlk hP hD hS ⟨(by rw [if_pos c_8, ofAns, if_neg hw_0, if_neg hw_1, if_neg hw_2, if_neg hw_3, if_pos hw_4] <;> rfl), fun _ => hX1.2, _, _, rfl, hX1.1, fun _ => hX1.2⟩ dX5_of_143
    by_cases hw_5 : p2 = 5
    · refine x_tp (y := 5) hw_5 ?_
      refine lv_tableIn (tgt := 144) hx hb dX5_of_41 (by decide) (by decide) rfl (by decide) ?_
      refine lv_aload_n hx hb dX5_of_144 rfl (lv_at hl 1 rfl) ?_
      refine va_get (D := D) (ci := 5) (v := .ref (c 14)) (C := RX5) (T := TX5) (N := 7) hx hb hts hiX50 hown hK.1 hP 0 rfl rfl 3 (by decide) f1 (fun _ h9 => h9) rfl dX5_of_145 ?_
      refine va_get (D := D) (ci := 1) (v := .ref (c 18)) (C := RX1) (T := TX1) (N := 15) hx hb hts hiX10 hown hK.1 hP 14 rfl rfl 4 (by decide) f6 (fun _ h9 => h9) rfl dX5_of_148 ?_
      refine lv_iload_n hx hb dX5_of_151 rfl (lv_at hl 2 rfl) ?_
      refine x_tp (y := nI p1.toNatClampNeg) hj.1 ?_
      refine x_iald hx hb hK hP 18 0 rfl rfl (k := p1.toNatClampNeg) (by omega) (by decide) dX5_of_152 ?_
      refine lv_aload_n hx hb dX5_of_153 rfl (lv_at hl 1 rfl) ?_
      refine va_get (D := D) (ci := 5) (v := .ref (c 14)) (C := RX5) (T := TX5) (N := 7) hx hb hts hiX50 hown hK.1 hP 0 rfl rfl 3 (by decide) f1 (fun _ h9 => h9) rfl dX5_of_154 ?_
      refine va_get (D := D) (ci := 1) (v := .ref (c 17)) (C := RX1) (T := TX1) (N := 15) hx hb hts hiX10 hown hK.1 hP 14 rfl rfl 3 (by decide) f5 (fun _ h9 => h9) rfl dX5_of_157 ?_
      refine lv_iload_n hx hb dX5_of_160 rfl (lv_at hl 2 rfl) ?_
      refine x_tp (y := nI p1.toNatClampNeg) hj.1 ?_
      refine x_iald hx hb hK hP 17 0 rfl rfl (k := p1.toNatClampNeg) (by omega) (by decide) dX5_of_161 ?_
      refine lv_iadd hx hb dX5_of_162 ?_
      exact w_iret (S0 := cS) (w1 := cX c cA cC) (u, n, m, lo, a, False, X1) hx hb hr hlk hP hD hS ⟨(by rw [if_pos c_8, ofAns, if_neg hw_0, if_neg hw_1, if_neg hw_2, if_neg hw_3, if_neg hw_4, if_pos hw_5] <;> rfl), fun _ => hX1.2, _, _, rfl, hX1.1, fun _ => hX1.2⟩ dX5_of_163
    by_cases hw_6 : p2 = 6
    · refine x_tp (y := 6) hw_6 ?_
      refine lv_tableIn (tgt := 164) hx hb dX5_of_41 (by decide) (by decide) rfl (by decide) ?_
      refine lv_aload_n hx hb dX5_of_164 rfl (lv_at hl 1 rfl) ?_
      refine va_get (D := D) (ci := 5) (v := .ref (c 14)) (C := RX5) (T := TX5) (N := 7) hx hb hts hiX50 hown hK.1 hP 0 rfl rfl 3 (by decide) f1 (fun _ h9 => h9) rfl dX5_of_165 ?_
      refine va_get (D := D) (ci := 1) (v := .ref (c 20)) (C := RX1) (T := TX1) (N := 15) hx hb hts hiX10 hown hK.1 hP 14 rfl rfl 6 (by decide) f7 (fun _ h9 => h9) rfl dX5_of_168 ?_
      refine lv_iload_n hx hb dX5_of_171 rfl (lv_at hl 2 rfl) ?_
      refine x_tp (y := nI p1.toNatClampNeg) hj.1 ?_
      refine x_iald hx hb hK hP 20 0 rfl rfl (k := p1.toNatClampNeg) (by omega) (by decide) dX5_of_172 ?_
      exact w_iret (S0 := cS) (w1 := cX c cA cC) (u, n, m, lo, a, False, X1) hx hb hr hlk hP hD hS ⟨(by rw [if_pos c_8, ofAns, if_neg hw_0, if_neg hw_1, if_neg hw_2, if_neg hw_3, if_neg hw_4, if_neg hw_5, if_pos hw_6] <;> rfl), fun _ => hX1.2, _, _, rfl, hX1.1, fun _ => hX1.2⟩ dX5_of_173
    by_cases hw_7 : p2 = 7
    · refine x_tp (y := 7) hw_7 ?_
      refine lv_tableIn (tgt := 174) hx hb dX5_of_41 (by decide) (by decide) rfl (by decide) ?_
      refine lv_aload_n hx hb dX5_of_174 rfl (lv_at hl 1 rfl) ?_
      refine va_get (D := D) (ci := 5) (v := .ref (c 14)) (C := RX5) (T := TX5) (N := 7) hx hb hts hiX50 hown hK.1 hP 0 rfl rfl 3 (by decide) f1 (fun _ h9 => h9) rfl dX5_of_175 ?_
      refine va_get (D := D) (ci := 1) (v := .ref (c 18)) (C := RX1) (T := TX1) (N := 15) hx hb hts hiX10 hown hK.1 hP 14 rfl rfl 4 (by decide) f6 (fun _ h9 => h9) rfl dX5_of_178 ?_
      refine lv_iload_n hx hb dX5_of_181 rfl (lv_at hl 2 rfl) ?_
      refine x_tp (y := nI p1.toNatClampNeg) hj.1 ?_
      refine x_iald hx hb hK hP 18 0 rfl rfl (k := p1.toNatClampNeg) (by omega) (by decide) dX5_of_182 ?_
      exact w_iret (S0 := cS) (w1 := cX c cA cC) (u, n, m, lo, a, False, X1) hx hb hr hlk hP hD hS ⟨(by rw [if_pos c_8, ofAns, if_neg hw_0, if_neg hw_1, if_neg hw_2, if_neg hw_3, if_neg hw_4, if_neg hw_5, if_neg hw_6, if_pos hw_7] <;> rfl), fun _ => hX1.2, _, _, rfl, hX1.1, fun _ => hX1.2⟩ dX5_of_183
    by_cases hw_8 : p2 = 8
    · refine x_tp (y := 8) hw_8 ?_
      refine lv_tableIn (tgt := 184) hx hb dX5_of_41 (by decide) (by decide) rfl (by decide) ?_
      refine lv_aload_n hx hb dX5_of_184 rfl (lv_at hl 1 rfl) ?_
      refine va_get (D := D) (ci := 5) (v := .ref (c 14)) (C := RX5) (T := TX5) (N := 7) hx hb hts hiX50 hown hK.1 hP 0 rfl rfl 3 (by decide) f1 (fun _ h9 => h9) rfl dX5_of_185 ?_
      refine va_get (D := D) (ci := 1) (v := .ref (c 19)) (C := RX1) (T := TX1) (N := 15) hx hb hts hiX10 hown hK.1 hP 14 rfl rfl 5 (by decide) f8 (fun _ h9 => h9) rfl dX5_of_188 ?_
      refine lv_iload_n hx hb dX5_of_191 rfl (lv_at hl 2 rfl) ?_
      refine x_tp (y := nI p1.toNatClampNeg) hj.1 ?_
      refine x_iald hx hb hK hP 19 0 rfl rfl (k := p1.toNatClampNeg) (by omega) (by decide) dX5_of_192 ?_
      exact w_iret (S0 := cS) (w1 := cX c cA cC) (u, n, m, lo, a, False, X1) hx hb hr hlk hP hD hS ⟨(by rw [if_pos c_8, ofAns, if_neg hw_0, if_neg hw_1, if_neg hw_2, if_neg hw_3, if_neg hw_4, if_neg hw_5, if_neg hw_6, if_neg hw_7, if_pos hw_8] <;> rfl), fun _ => hX1.2, _, _, rfl, hX1.1, fun _ => hX1.2⟩ dX5_of_193
    refine lv_tableOut (tgt := 194) hx hb dX5_of_41 (sw_out (N := 8) (fun j hj => match j, hj with | 0, _ => hw_0 | 1, _ => hw_1 | 2, _ => hw_2 | 3, _ => hw_3 | 4, _ => hw_4 | 5, _ => hw_5 | 6, _ => hw_6 | 7, _ => hw_7 | 8, _ => hw_8 | k9 + 9, h9 => absurd h9 (by omega)) (by decide)) (by decide) ?_
    refine lv_sipush (v := (-1002)) hx hb dX5_of_194 (by decide) ?_
    exact w_iret (S0 := cS) (w1 := cX c cA cC) (u, n, m, lo, a, False, X1) hx hb hr hlk hP hD hS ⟨(by rw [if_pos c_8, ofAns, if_neg hw_0, if_neg hw_1, if_neg hw_2, if_neg hw_3, if_neg hw_4, if_neg hw_5, if_neg hw_6, if_neg hw_7, if_neg hw_8] <;> rfl), fun _ => hX1.2, _, _, rfl, hX1.1, fun _ => hX1.2⟩ dX5_of_197
  · refine lv_sipush (v := (-1001)) hx hb dX5_of_11 (by decide) ?_
    exact w_iret (S0 := cS) (w1 := cX c cA cC) (u, n, m, lo, a, sl, X) hx hb hr hlk hP hD hS ⟨(by rw [if_neg c_8]), (fun h9 => absurd h9 (c_8)), _, _, rfl, hJ, hLK⟩ dX5_of_14

set_option maxHeartbeats 4000000 in
set_option maxRecDepth 100000 in
theorem k5_height (l0 : Launch) (D : va_G) (c : Nat → Nat) (cA cC : ClassId) (u : Nat → Int32) (n m : Nat) (lo : Nat → Int32) (a : Nat → Nat → Int32) (sl : Prop) (X : lS) (sz : Nat) (p1 : Int32) (hW : WF n m a) (hLo : LoOK lo a) (hJ : JK X) (hLK : ¬ sl → LK a n m X) : Met l0 yX5_height wsX5_height ({ frames := 6, cells := 0, slots := 0, locals := 144 }) (wPc D (shW c u ++ svW c cA m lo a ++ noW c cA n a ++ lyX c cA cC sl X) [(cA, .int), (cC, .object "StaffHeads$Chord")] sz [.ref (c 0), .int p1]) (va_Ql (fun (r9 : Int64) (x : cS) => r9 = (if okI p1 0 (nI n - 1) then (u 1).toInt64 * ((xL x).1 1 p1.toNatClampNeg - cDown (a 7) (u 4) n ((xL x).1 7) ((xL x).1 8) (u 2) (u 3) ((a 7 p1.toNatClampNeg).toNatClampNeg)).toInt64 else -1001) ∧ (okI p1 0 (nI n - 1) → LK a n m (xL x)) ∧ cQ u n m lo a x) (wB D (shW c u ++ svW c cA m lo a ++ noW c cA n a ++ lyX c cA cC sl X) sz (cX c cA cC)) (va_A (shW c u ++ svW c cA m lo a ++ noW c cA n a ++ lyX c cA cC sl X) sz)) 0 0 (va_A (shW c u ++ svW c cA m lo a ++ noW c cA n a ++ lyX c cA cC sl X) sz) := by
  refine w_head (C := RX5) (cc := cX5_height) (maxL := 2) (ret := (some .long)) [(0, .ref (c 0)), (1, .int p1)] (by decide) rfl rfl (Nat.le_of_ble_eq_true rfl) rfl ?_
  intro p e s mi below meth cd hx hb hr hlk hml hown hin hts hP hD hS hA hK ls hl
  have hiX10 : ∀ w ∈ wsX10, w ∈ wsX5_height := fun w h => List.mem_cons_of_mem _ (List.mem_append_left _ (List.mem_append_left _ (List.mem_append_left _ (List.mem_append_left _ (List.mem_append_right _ h)))))
  have hiX20 : ∀ w ∈ wsX20, w ∈ wsX5_height := fun w h => List.mem_cons_of_mem _ (List.mem_append_left _ (List.mem_append_left _ (List.mem_append_left _ (List.mem_append_right _ h))))
  have hiX50 : ∀ w ∈ wsX50, w ∈ wsX5_height := fun w h => List.mem_cons_of_mem _ (List.mem_append_left _ (List.mem_append_left _ (List.mem_append_left _ (List.mem_append_left _ (List.mem_append_left _ (List.mem_append_right _ h))))))
  have f0 := hts (.fieldLink RX5 19 "StaffHeads" "notes" "LStaffHeads$Notes;") (List.mem_of_getElem? (i := 1) rfl)
  have f1 := hts (.fieldLink RX5 26 "StaffHeads" "layout" "LStaffHeads$Layout;") (List.mem_of_getElem? (i := 3) rfl)
  have f2 := hts (.fieldLink RX5 10 "StaffHeads" "staves" "LStaffHeads$Staves;") (List.mem_of_getElem? (i := 4) rfl)
  have f3 := hts (.fieldLink RX5 46 "StaffHeads" "unit" "I") (List.mem_of_getElem? (i := 5) rfl)
  have f4 := hts (.fieldLink RX5 96 "StaffHeads$Layout" "step" "[I") (List.mem_of_getElem? (i := 6) rfl)
  have f5 := hts (.fieldLink RX5 116 "StaffHeads$Notes" "staff" "[I") (List.mem_of_getElem? (i := 7) rfl)
  have f6 := hts (.constantLong RX5 114 (-1001)) (List.mem_of_getElem? (i := 2) rfl)
  have hK1 : kK D [(cA, .int)] s := ⟨hK.1.sub [0] rfl, hK.2⟩
  have hn : n ≤ 60 := hW.1
  have hm : m ≤ 12 := hW.2.1
  have hs4 : ∀ k, k < n → a 7 k = nI ((a 7 k).toNatClampNeg) ∧ (a 7 k).toNatClampNeg < 4 := fun k hk => by obtain ⟨j, hj, e⟩ := hW.2.2.1 k hk; exact staff_nat hj e
  refine lv_aload_n hx hb dX5_height_0 rfl (lv_at hl 0 rfl) ?_
  refine va_get (D := D) (ci := 5) (v := .ref (c 7)) (C := RX5) (T := TX5) (N := 7) hx hb hts hiX50 hown hK.1 hP 0 rfl rfl 2 (by decide) f0 (fun _ h9 => h9) rfl dX5_height_1 ?_
  refine lv_iload_n hx hb dX5_height_4 rfl (lv_at hl 1 rfl) ?_
  refine rcVi (As := [.int p1]) (rest := []) ⟨hx, hb, hml, hown, hts⟩ (k2_has l0 D c cA n a p1 ) (cwV 1 hts gX5_height_X2_has rfl rfl rfl (by decide +kernel) ⟨Nat.le_of_ble_eq_true rfl, Nat.le_of_ble_eq_true rfl⟩) (va_recv hK.1 hP (ci := 2) (q0 := 7) rfl rfl) (hP.sub [7, 8, 9, 10, 11, 12, 13] rfl) hK1 rfl hl.1 rfl (Nat.le_of_ble_eq_true rfl) dX5_height_5 ⟨Nat.zero_le _, Nat.zero_le _⟩ ?_
  refine x_ifne (tgt := 15) hx hb dX5_height_8 (by decide) (fun (c_8 : okI p1 0 (nI n - 1)) => ?_) (fun (c_8 : ¬ (okI p1 0 (nI n - 1))) => ?_)
  · have hj := ok_note hn c_8
    have hs4k := (hs4 _ hj.2).2
    refine lv_aload_n hx hb dX5_height_15 rfl (lv_at hl 0 rfl) ?_
    refine va_get (D := D) (ci := 5) (v := .ref (c 14)) (C := RX5) (T := TX5) (N := 7) hx hb hts hiX50 hown hK.1 hP 0 rfl rfl 3 (by decide) f1 (fun _ h9 => h9) rfl dX5_height_16 ?_
    refine lv_aload_n hx hb dX5_height_19 rfl (lv_at hl 0 rfl) ?_
    refine va_get (D := D) (ci := 5) (v := .ref (c 7)) (C := RX5) (T := TX5) (N := 7) hx hb hts hiX50 hown hK.1 hP 0 rfl rfl 2 (by decide) f0 (fun _ h9 => h9) rfl dX5_height_20 ?_
    refine lv_aload_n hx hb dX5_height_23 rfl (lv_at hl 0 rfl) ?_
    refine va_get (D := D) (ci := 5) (v := .ref (c 1)) (C := RX5) (T := TX5) (N := 7) hx hb hts hiX50 hown hK.1 hP 0 rfl rfl 1 (by decide) f2 (fun _ h9 => h9) rfl dX5_height_24 ?_
    refine wcVv (S0 := lS) (wr := shW c u) (As := [.ref (c 7), .ref (c 1)]) (rest := []) ⟨hx, hb, hml, hown, hts⟩ (k1_refresh l0 D c cA cC sl X n m lo a _ hW hLo hJ hLK) (cwV 2 hts gX5_height_X1_refresh rfl rfl rfl (by decide +kernel) ⟨Nat.le_of_ble_eq_true rfl, Nat.le_of_ble_eq_true rfl⟩) (va_recv hK.1 hP (ci := 1) (q0 := 14) rfl rfl) hP hD hS hA hK [14, 15, 16, 17, 18, 19, 20, 21, 22, 23, 24, 25, 26, 27, 28, 29, 30, 31, 32, 33, 34, 35, 36, 7, 8, 9, 10, 11, 12, 13, 1, 2, 3, 4, 5, 6] [0] rfl rfl (by decide) (by decide) (by decide) rfl hl.1 rfl (Nat.le_of_ble_eq_true rfl) dX5_height_27 ⟨Nat.zero_le _, Nat.zero_le _⟩ (fun X1 H locs hX1 hP hD hS => ?_)
    have hP : va_P D vwCl (shW c u ++ svW c cA m lo a ++ noW c cA n a ++ lyX c cA cC False X1) H := hP.sub [0, 31, 32, 33, 34, 35, 36, 24, 25, 26, 27, 28, 29, 30, 1, 2, 3, 4, 5, 6, 7, 8, 9, 10, 11, 12, 13, 14, 15, 16, 17, 18, 19, 20, 21, 22, 23] rfl
    have hD : va_D (va_A (shW c u ++ svW c cA m lo a ++ noW c cA n a ++ lyX c cA cC sl X) sz) (shW c u ++ svW c cA m lo a ++ noW c cA n a ++ lyX c cA cC False X1) := hD.sub [0, 31, 32, 33, 34, 35, 36, 24, 25, 26, 27, 28, 29, 30, 1, 2, 3, 4, 5, 6, 7, 8, 9, 10, 11, 12, 13, 14, 15, 16, 17, 18, 19, 20, 21, 22, 23] (by decide) rfl
    refine lv_aload_n hx hb dX5_height_30 rfl (lv_at hl 0 rfl) ?_
    refine va_get (D := D) (ci := 5) (v := .int (u 1)) (C := RX5) (T := TX5) (N := 7) hx hb hts hiX50 hown hK.1 hP 0 rfl rfl 0 (by decide) f3 (fun _ h9 => h9) rfl dX5_height_31 ?_
    refine lv_i2l (v := (u 1).toInt64) hx hb dX5_height_34 rfl ?_
    refine lv_aload_n hx hb dX5_height_35 rfl (lv_at hl 0 rfl) ?_
    refine va_get (D := D) (ci := 5) (v := .ref (c 14)) (C := RX5) (T := TX5) (N := 7) hx hb hts hiX50 hown hK.1 hP 0 rfl rfl 3 (by decide) f1 (fun _ h9 => h9) rfl dX5_height_36 ?_
    refine va_get (D := D) (ci := 1) (v := .ref (c 15)) (C := RX1) (T := TX1) (N := 15) hx hb hts hiX10 hown hK.1 hP 14 rfl rfl 1 (by decide) f4 (fun _ h9 => h9) rfl dX5_height_39 ?_
    refine lv_iload_n hx hb dX5_height_42 rfl (lv_at hl 1 rfl) ?_
    refine x_tp (y := nI p1.toNatClampNeg) hj.1 ?_
    refine x_iald hx hb hK hP 15 0 rfl rfl (k := p1.toNatClampNeg) (by omega) (by decide) dX5_height_43 ?_
    refine lv_aload_n hx hb dX5_height_44 rfl (lv_at hl 0 rfl) ?_
    refine lv_aload_n hx hb dX5_height_45 rfl (lv_at hl 0 rfl) ?_
    refine va_get (D := D) (ci := 5) (v := .ref (c 7)) (C := RX5) (T := TX5) (N := 7) hx hb hts hiX50 hown hK.1 hP 0 rfl rfl 2 (by decide) f0 (fun _ h9 => h9) rfl dX5_height_46 ?_
    refine va_get (D := D) (ci := 2) (v := .ref (c 8)) (C := RX2) (T := TX2) (N := 7) hx hb hts hiX20 hown hK.1 hP 7 rfl rfl 0 (by decide) f5 (fun _ h9 => h9) rfl dX5_height_49 ?_
    refine lv_iload_n hx hb dX5_height_52 rfl (lv_at hl 1 rfl) ?_
    refine x_tp (y := nI p1.toNatClampNeg) hj.1 ?_
    refine x_iald hx hb hK hP 8 0 rfl rfl (k := p1.toNatClampNeg) (by omega) (by decide) dX5_height_53 ?_
    refine x_tp (y := nI ((a 7 p1.toNatClampNeg).toNatClampNeg)) (hs4 _ hj.2).1 ?_
    refine rcVi (As := [.int (nI ((a 7 p1.toNatClampNeg).toNatClampNeg))]) (rest := [.int (X1.1 1 p1.toNatClampNeg), .long ((u 1).toInt64)]) ⟨hx, hb, hml, hown, hts⟩ (k5_stepsDownTo l0 D c cA cC u n a False X1 ((a 7 p1.toNatClampNeg).toNatClampNeg) (by omega) (by omega)) (cwV 1 hts gX5_height_X5_stepsDownTo rfl rfl rfl (by decide +kernel) ⟨Nat.le_of_ble_eq_true rfl, Nat.le_of_ble_eq_true rfl⟩) (va_recv hK.1 hP (ci := 5) (q0 := 0) rfl rfl) (hP.sub [0, 7, 8, 9, 10, 11, 12, 13, 14, 15, 16, 17, 18, 19, 20, 21, 22, 23, 24, 25, 26, 27, 28, 29, 30, 31, 32, 33, 34, 35, 36] rfl) hK rfl hl.1 rfl (Nat.le_of_ble_eq_true rfl) dX5_height_54 ⟨Nat.zero_le _, Nat.zero_le _⟩ ?_
    refine lv_isub hx hb dX5_height_57 ?_
    refine lv_i2l (v := ((X1.1 1 p1.toNatClampNeg) - (cDown (a 7) (u 4) n (X1.1 7) (X1.1 8) (u 2) (u 3) ((a 7 p1.toNatClampNeg).toNatClampNeg))).toInt64) hx hb dX5_height_58 rfl ?_
    refine lv_lmul hx hb dX5_height_59 ?_
    exact w_lret (S0 := cS) (w1 := cX c cA cC) (u, n, m, lo, a, False, X1) hx hb hr hlk hP hD hS ⟨(by rw [if_pos c_8]), fun _ => hX1.2, _, _, rfl, hX1.1, fun _ => hX1.2⟩ dX5_height_60
  · refine lv_ldc2 (v := (-1001)) hx hb hown f6 dX5_height_11 ?_
    exact w_lret (S0 := cS) (w1 := cX c cA cC) (u, n, m, lo, a, sl, X) hx hb hr hlk hP hD hS ⟨(by rw [if_neg c_8]), (fun h9 => absurd h9 (c_8)), _, _, rfl, hJ, hLK⟩ dX5_height_14

set_option maxHeartbeats 4000000 in
set_option maxRecDepth 100000 in
theorem k5_at (l0 : Launch) (D : va_G) (c : Nat → Nat) (cA cC : ClassId) (u : Nat → Int32) (n m : Nat) (lo : Nat → Int32) (a : Nat → Nat → Int32) (sl : Prop) (X : lS) (sz : Nat) (p1 p2 p3 : Int32) (hW : WF n m a) (hLo : LoOK lo a) (hJ : JK X) (hLK : ¬ sl → LK a n m X) : Met l0 yX5_at wsX5_at ({ frames := 6, cells := 0, slots := 0, locals := 144 }) (wPc D (shW c u ++ svW c cA m lo a ++ noW c cA n a ++ lyX c cA cC sl X) [(cA, .int), (cC, .object "StaffHeads$Chord")] sz [.ref (c 0), .int p1, .int p2, .int p3]) (va_Qi (fun (r9 : Int32) (x : cS) => r9 = (if okI p1 0 3 then (if okI p2 0 99 ∧ okI p3 0 4 then atAns p3 ((xL x).1 7 (p1.toNatClampNeg * 100 + p2.toNatClampNeg)) ((xL x).1 8 (p1.toNatClampNeg * 100 + p2.toNatClampNeg)) ((xL x).1 9 (p1.toNatClampNeg * 100 + p2.toNatClampNeg)) ((xL x).1 10 (p1.toNatClampNeg * 100 + p2.toNatClampNeg)) ((xL x).1 11 (p1.toNatClampNeg * 100 + p2.toNatClampNeg)) else -1002) else -1001) ∧ ((okI p1 0 3 ∧ okI p2 0 99) → LK a n m (xL x)) ∧ cQ u n m lo a x) (wB D (shW c u ++ svW c cA m lo a ++ noW c cA n a ++ lyX c cA cC sl X) sz (cX c cA cC)) (va_A (shW c u ++ svW c cA m lo a ++ noW c cA n a ++ lyX c cA cC sl X) sz)) 0 0 (va_A (shW c u ++ svW c cA m lo a ++ noW c cA n a ++ lyX c cA cC sl X) sz) := by
  refine w_head (C := RX5) (cc := cX5_at) (maxL := 5) (ret := (some .int)) [(0, .ref (c 0)), (1, .int p1), (2, .int p2), (3, .int p3)] (by decide) rfl rfl (Nat.le_of_ble_eq_true rfl) rfl ?_
  intro p e s mi below meth cd hx hb hr hlk hml hown hin hts hP hD hS hA hK ls hl
  have hiX10 : ∀ w ∈ wsX10, w ∈ wsX5_at := fun w h => List.mem_cons_of_mem _ (List.mem_append_left _ (List.mem_append_left _ (List.mem_append_left _ (List.mem_append_left _ (List.mem_append_right _ h)))))
  have hiX50 : ∀ w ∈ wsX50, w ∈ wsX5_at := fun w h => List.mem_cons_of_mem _ (List.mem_append_left _ (List.mem_append_left _ (List.mem_append_left _ (List.mem_append_left _ (List.mem_append_left _ (List.mem_append_right _ h))))))
  have f0 := hts (.fieldLink RX5 26 "StaffHeads" "layout" "LStaffHeads$Layout;") (List.mem_of_getElem? (i := 1) rfl)
  have f1 := hts (.fieldLink RX5 19 "StaffHeads" "notes" "LStaffHeads$Notes;") (List.mem_of_getElem? (i := 2) rfl)
  have f2 := hts (.fieldLink RX5 10 "StaffHeads" "staves" "LStaffHeads$Staves;") (List.mem_of_getElem? (i := 3) rfl)
  have f3 := hts (.fieldLink RX5 127 "StaffHeads$Layout" "high" "[I") (List.mem_of_getElem? (i := 4) rfl)
  have f4 := hts (.fieldLink RX5 130 "StaffHeads$Layout" "low" "[I") (List.mem_of_getElem? (i := 5) rfl)
  have f5 := hts (.fieldLink RX5 133 "StaffHeads$Layout" "noteCount" "[I") (List.mem_of_getElem? (i := 6) rfl)
  have f6 := hts (.fieldLink RX5 136 "StaffHeads$Layout" "chordCount" "[I") (List.mem_of_getElem? (i := 7) rfl)
  have f7 := hts (.fieldLink RX5 139 "StaffHeads$Layout" "signColumns" "[I") (List.mem_of_getElem? (i := 8) rfl)
  have hK1 : kK D [(cA, .int)] s := ⟨hK.1.sub [0] rfl, hK.2⟩
  have hn : n ≤ 60 := hW.1
  have hm : m ≤ 12 := hW.2.1
  refine lv_iload_n hx hb dX5_at_0 rfl (lv_at hl 1 rfl) ?_
  refine rcSi (As := [.int p1]) (rest := []) ⟨hx, hb, hml, hown, hts⟩ (k5_isStaff l0 p1) (va_cwS 1 hts gX5_at_X5_isStaff rfl rfl rfl (by decide +kernel) ⟨Nat.le_of_ble_eq_true rfl, Nat.le_of_ble_eq_true rfl⟩) rfl hl.1 rfl (Nat.le_of_ble_eq_true rfl) dX5_at_1 ⟨Nat.zero_le _, Nat.zero_le _⟩ ?_
  refine x_ifne (tgt := 11) hx hb dX5_at_4 (by decide) (fun (c_4 : okI p1 0 3) => ?_) (fun (c_4 : ¬ (okI p1 0 3)) => ?_)
  · have hj := okI_nat (N := 3) (by decide) c_4
    refine lv_iload_n hx hb dX5_at_11 rfl (lv_at hl 2 rfl) ?_
    refine rcSi (As := [.int p2]) (rest := []) ⟨hx, hb, hml, hown, hts⟩ (k5_isTick l0 p2) (va_cwS 1 hts gX5_at_X5_isTick rfl rfl rfl (by decide +kernel) ⟨Nat.le_of_ble_eq_true rfl, Nat.le_of_ble_eq_true rfl⟩) rfl hl.1 rfl (Nat.le_of_ble_eq_true rfl) dX5_at_12 ⟨Nat.zero_le _, Nat.zero_le _⟩ ?_
    refine x_ifne (tgt := 22) hx hb dX5_at_15 (by decide) (fun (c_15 : okI p2 0 99) => ?_) (fun (c_15 : ¬ (okI p2 0 99)) => ?_)
    · have hj2 := okI_nat (N := 99) (by decide) c_15
      refine lv_aload_n hx hb dX5_at_22 rfl (lv_at hl 0 rfl) ?_
      refine va_get (D := D) (ci := 5) (v := .ref (c 14)) (C := RX5) (T := TX5) (N := 7) hx hb hts hiX50 hown hK.1 hP 0 rfl rfl 3 (by decide) f0 (fun _ h9 => h9) rfl dX5_at_23 ?_
      refine lv_aload_n hx hb dX5_at_26 rfl (lv_at hl 0 rfl) ?_
      refine va_get (D := D) (ci := 5) (v := .ref (c 7)) (C := RX5) (T := TX5) (N := 7) hx hb hts hiX50 hown hK.1 hP 0 rfl rfl 2 (by decide) f1 (fun _ h9 => h9) rfl dX5_at_27 ?_
      refine lv_aload_n hx hb dX5_at_30 rfl (lv_at hl 0 rfl) ?_
      refine va_get (D := D) (ci := 5) (v := .ref (c 1)) (C := RX5) (T := TX5) (N := 7) hx hb hts hiX50 hown hK.1 hP 0 rfl rfl 1 (by decide) f2 (fun _ h9 => h9) rfl dX5_at_31 ?_
      refine wcVv (S0 := lS) (wr := shW c u) (As := [.ref (c 7), .ref (c 1)]) (rest := []) ⟨hx, hb, hml, hown, hts⟩ (k1_refresh l0 D c cA cC sl X n m lo a _ hW hLo hJ hLK) (cwV 2 hts gX5_at_X1_refresh rfl rfl rfl (by decide +kernel) ⟨Nat.le_of_ble_eq_true rfl, Nat.le_of_ble_eq_true rfl⟩) (va_recv hK.1 hP (ci := 1) (q0 := 14) rfl rfl) hP hD hS hA hK [14, 15, 16, 17, 18, 19, 20, 21, 22, 23, 24, 25, 26, 27, 28, 29, 30, 31, 32, 33, 34, 35, 36, 7, 8, 9, 10, 11, 12, 13, 1, 2, 3, 4, 5, 6] [0] rfl rfl (by decide) (by decide) (by decide) rfl hl.1 rfl (Nat.le_of_ble_eq_true rfl) dX5_at_34 ⟨Nat.zero_le _, Nat.zero_le _⟩ (fun X1 H locs hX1 hP hD hS => ?_)
      have hP : va_P D vwCl (shW c u ++ svW c cA m lo a ++ noW c cA n a ++ lyX c cA cC False X1) H := hP.sub [0, 31, 32, 33, 34, 35, 36, 24, 25, 26, 27, 28, 29, 30, 1, 2, 3, 4, 5, 6, 7, 8, 9, 10, 11, 12, 13, 14, 15, 16, 17, 18, 19, 20, 21, 22, 23] rfl
      have hD : va_D (va_A (shW c u ++ svW c cA m lo a ++ noW c cA n a ++ lyX c cA cC sl X) sz) (shW c u ++ svW c cA m lo a ++ noW c cA n a ++ lyX c cA cC False X1) := hD.sub [0, 31, 32, 33, 34, 35, 36, 24, 25, 26, 27, 28, 29, 30, 1, 2, 3, 4, 5, 6, 7, 8, 9, 10, 11, 12, 13, 14, 15, 16, 17, 18, 19, 20, 21, 22, 23] (by decide) rfl
      refine lv_iload_n hx hb dX5_at_37 rfl (lv_at hl 1 rfl) ?_
      refine lv_iload_n hx hb dX5_at_38 rfl (lv_at hl 2 rfl) ?_
      refine rcSi (As := [.int p1, .int p2]) (rest := []) ⟨hx, hb, hml, hown, hts⟩ (k5_cellOf l0 p1 p2) (va_cwS 2 hts gX5_at_X5_cellOf rfl rfl rfl (by decide +kernel) ⟨Nat.le_of_ble_eq_true rfl, Nat.le_of_ble_eq_true rfl⟩) rfl hl.1 rfl (Nat.le_of_ble_eq_true rfl) dX5_at_39 ⟨Nat.zero_le _, Nat.zero_le _⟩ ?_
      refine x_tp (y := nI (p1.toNatClampNeg * 100 + p2.toNatClampNeg)) (cell_pp hj.1 hj2.1) ?_
      refine lv_istore (lv' := [(4, .int (nI (p1.toNatClampNeg * 100 + p2.toNatClampNeg))), (0, .ref (c 0)), (1, .int p1), (2, .int p2), (3, .int p3)]) hx hb dX5_at_42 hl (by decide) rfl (fun ls hl => ?_)
      refine lv_iload_n hx hb dX5_at_44 rfl (lv_at hl 4 rfl) ?_
      by_cases hw_0 : p3 = 0
      · refine x_tp (y := 0) hw_0 ?_
        refine lv_tableIn (tgt := 80) hx hb dX5_at_45 (by decide) (by decide) rfl (by decide) ?_
        refine lv_aload_n hx hb dX5_at_80 rfl (lv_at hl 1 rfl) ?_
        refine va_get (D := D) (ci := 5) (v := .ref (c 14)) (C := RX5) (T := TX5) (N := 7) hx hb hts hiX50 hown hK.1 hP 0 rfl rfl 3 (by decide) f0 (fun _ h9 => h9) rfl dX5_at_81 ?_
        refine va_get (D := D) (ci := 1) (v := .ref (c 21)) (C := RX1) (T := TX1) (N := 15) hx hb hts hiX10 hown hK.1 hP 14 rfl rfl 7 (by decide) f3 (fun _ h9 => h9) rfl dX5_at_84 ?_
        refine lv_iload hx hb dX5_at_87 (lv_at hl 0 rfl) ?_
        refine x_iald hx hb hK hP 21 0 rfl rfl (k := (p1.toNatClampNeg * 100 + p2.toNatClampNeg)) (by omega) (by decide) dX5_at_89 ?_
        exact w_iret (S0 := cS) (w1 := cX c cA cC) (u, n, m, lo, a, False, X1) hx hb hr hlk hP hD hS ⟨(by rw [if_pos c_4, if_pos ⟨c_15, by rw [hw_0]; exact ⟨by decide, by decide⟩⟩, atAns, if_pos hw_0] <;> rfl), fun _ => hX1.2, _, _, rfl, hX1.1, fun _ => hX1.2⟩ dX5_at_90
      by_cases hw_1 : p3 = 1
      · refine x_tp (y := 1) hw_1 ?_
        refine lv_tableIn (tgt := 91) hx hb dX5_at_45 (by decide) (by decide) rfl (by decide) ?_
        refine lv_aload_n hx hb dX5_at_91 rfl (lv_at hl 1 rfl) ?_
        refine va_get (D := D) (ci := 5) (v := .ref (c 14)) (C := RX5) (T := TX5) (N := 7) hx hb hts hiX50 hown hK.1 hP 0 rfl rfl 3 (by decide) f0 (fun _ h9 => h9) rfl dX5_at_92 ?_
        refine va_get (D := D) (ci := 1) (v := .ref (c 22)) (C := RX1) (T := TX1) (N := 15) hx hb hts hiX10 hown hK.1 hP 14 rfl rfl 8 (by decide) f4 (fun _ h9 => h9) rfl dX5_at_95 ?_
        refine lv_iload hx hb dX5_at_98 (lv_at hl 0 rfl) ?_
        refine x_iald hx hb hK hP 22 0 rfl rfl (k := (p1.toNatClampNeg * 100 + p2.toNatClampNeg)) (by omega) (by decide) dX5_at_100 ?_
        exact w_iret (S0 := cS) (w1 := cX c cA cC) (u, n, m, lo, a, False, X1) hx hb hr hlk hP hD hS ⟨(by rw [if_pos c_4, if_pos ⟨c_15, by rw [hw_1]; exact ⟨by decide, by decide⟩⟩, atAns, if_neg hw_0, if_pos hw_1] <;> rfl), fun _ => hX1.2, _, _, rfl, hX1.1, fun _ => hX1.2⟩ dX5_at_101
      by_cases hw_2 : p3 = 2
      · refine x_tp (y := 2) hw_2 ?_
        refine lv_tableIn (tgt := 102) hx hb dX5_at_45 (by decide) (by decide) rfl (by decide) ?_
        refine lv_aload_n hx hb dX5_at_102 rfl (lv_at hl 1 rfl) ?_
        refine va_get (D := D) (ci := 5) (v := .ref (c 14)) (C := RX5) (T := TX5) (N := 7) hx hb hts hiX50 hown hK.1 hP 0 rfl rfl 3 (by decide) f0 (fun _ h9 => h9) rfl dX5_at_103 ?_
        refine va_get (D := D) (ci := 1) (v := .ref (c 23)) (C := RX1) (T := TX1) (N := 15) hx hb hts hiX10 hown hK.1 hP 14 rfl rfl 9 (by decide) f5 (fun _ h9 => h9) rfl dX5_at_106 ?_
        refine lv_iload hx hb dX5_at_109 (lv_at hl 0 rfl) ?_
        refine x_iald hx hb hK hP 23 0 rfl rfl (k := (p1.toNatClampNeg * 100 + p2.toNatClampNeg)) (by omega) (by decide) dX5_at_111 ?_
        exact w_iret (S0 := cS) (w1 := cX c cA cC) (u, n, m, lo, a, False, X1) hx hb hr hlk hP hD hS ⟨(by rw [if_pos c_4, if_pos ⟨c_15, by rw [hw_2]; exact ⟨by decide, by decide⟩⟩, atAns, if_neg hw_0, if_neg hw_1, if_pos hw_2] <;> rfl), fun _ => hX1.2, _, _, rfl, hX1.1, fun _ => hX1.2⟩ dX5_at_112
      by_cases hw_3 : p3 = 3
      · refine x_tp (y := 3) hw_3 ?_
        refine lv_tableIn (tgt := 113) hx hb dX5_at_45 (by decide) (by decide) rfl (by decide) ?_
        refine lv_aload_n hx hb dX5_at_113 rfl (lv_at hl 1 rfl) ?_
        refine va_get (D := D) (ci := 5) (v := .ref (c 14)) (C := RX5) (T := TX5) (N := 7) hx hb hts hiX50 hown hK.1 hP 0 rfl rfl 3 (by decide) f0 (fun _ h9 => h9) rfl dX5_at_114 ?_
        refine va_get (D := D) (ci := 1) (v := .ref (c 24)) (C := RX1) (T := TX1) (N := 15) hx hb hts hiX10 hown hK.1 hP 14 rfl rfl 10 (by decide) f6 (fun _ h9 => h9) rfl dX5_at_117 ?_
        refine lv_iload hx hb dX5_at_120 (lv_at hl 0 rfl) ?_
        refine x_iald hx hb hK hP 24 0 rfl rfl (k := (p1.toNatClampNeg * 100 + p2.toNatClampNeg)) (by omega) (by decide) dX5_at_122 ?_
        exact w_iret (S0 := cS) (w1 := cX c cA cC) (u, n, m, lo, a, False, X1) hx hb hr hlk hP hD hS ⟨(by rw [if_pos c_4, if_pos ⟨c_15, by rw [hw_3]; exact ⟨by decide, by decide⟩⟩, atAns, if_neg hw_0, if_neg hw_1, if_neg hw_2, if_pos hw_3] <;> rfl), fun _ => hX1.2, _, _, rfl, hX1.1, fun _ => hX1.2⟩ dX5_at_123
      by_cases hw_4 : p3 = 4
      · refine x_tp (y := 4) hw_4 ?_
        refine lv_tableIn (tgt := 124) hx hb dX5_at_45 (by decide) (by decide) rfl (by decide) ?_
        refine lv_aload_n hx hb dX5_at_124 rfl (lv_at hl 1 rfl) ?_
        refine va_get (D := D) (ci := 5) (v := .ref (c 14)) (C := RX5) (T := TX5) (N := 7) hx hb hts hiX50 hown hK.1 hP 0 rfl rfl 3 (by decide) f0 (fun _ h9 => h9) rfl dX5_at_125 ?_
        refine va_get (D := D) (ci := 1) (v := .ref (c 25)) (C := RX1) (T := TX1) (N := 15) hx hb hts hiX10 hown hK.1 hP 14 rfl rfl 11 (by decide) f7 (fun _ h9 => h9) rfl dX5_at_128 ?_
        refine lv_iload hx hb dX5_at_131 (lv_at hl 0 rfl) ?_
        refine x_iald hx hb hK hP 25 0 rfl rfl (k := (p1.toNatClampNeg * 100 + p2.toNatClampNeg)) (by omega) (by decide) dX5_at_133 ?_
        exact w_iret (S0 := cS) (w1 := cX c cA cC) (u, n, m, lo, a, False, X1) hx hb hr hlk hP hD hS ⟨(by rw [if_pos c_4, if_pos ⟨c_15, by rw [hw_4]; exact ⟨by decide, by decide⟩⟩, atAns, if_neg hw_0, if_neg hw_1, if_neg hw_2, if_neg hw_3] <;> rfl), fun _ => hX1.2, _, _, rfl, hX1.1, fun _ => hX1.2⟩ dX5_at_134
      refine lv_tableOut (tgt := 135) hx hb dX5_at_45 (sw_out (N := 4) (fun j hj => match j, hj with | 0, _ => hw_0 | 1, _ => hw_1 | 2, _ => hw_2 | 3, _ => hw_3 | 4, _ => hw_4 | k9 + 5, h9 => absurd h9 (by omega)) (by decide)) (by decide) ?_
      refine lv_sipush (v := (-1002)) hx hb dX5_at_135 (by decide) ?_
      exact w_iret (S0 := cS) (w1 := cX c cA cC) (u, n, m, lo, a, False, X1) hx hb hr hlk hP hD hS ⟨(by rw [if_pos c_4, if_neg (fun h => (ok04 h.2).elim hw_0 (fun q => q.elim hw_1 (fun q => q.elim hw_2 (fun q => q.elim hw_3 hw_4))))]), fun _ => hX1.2, _, _, rfl, hX1.1, fun _ => hX1.2⟩ dX5_at_138
    · refine lv_sipush (v := (-1002)) hx hb dX5_at_18 (by decide) ?_
      exact w_iret (S0 := cS) (w1 := cX c cA cC) (u, n, m, lo, a, sl, X) hx hb hr hlk hP hD hS ⟨(by rw [if_pos c_4, if_neg (fun h => c_15 h.1)]), (fun h9 => absurd h9 (fun h => c_15 h.2)), _, _, rfl, hJ, hLK⟩ dX5_at_21
  · refine lv_sipush (v := (-1001)) hx hb dX5_at_7 (by decide) ?_
    exact w_iret (S0 := cS) (w1 := cX c cA cC) (u, n, m, lo, a, sl, X) hx hb hr hlk hP hD hS ⟨(by rw [if_neg c_4]), (fun h9 => absurd h9 (fun h => c_4 h.1)), _, _, rfl, hJ, hLK⟩ dX5_at_10

set_option maxHeartbeats 4000000 in
set_option maxRecDepth 100000 in
theorem k5_shared (l0 : Launch) (D : va_G) (c : Nat → Nat) (cA cC : ClassId) (u : Nat → Int32) (n m : Nat) (lo : Nat → Int32) (a : Nat → Nat → Int32) (sl : Prop) (X : lS) (sz : Nat) (p1 p2 : Int32) (hW : WF n m a) (hLo : LoOK lo a) (hJ : JK X) (hLK : ¬ sl → LK a n m X) : Met l0 yX5_shared wsX5_shared ({ frames := 6, cells := 0, slots := 0, locals := 144 }) (wPc D (shW c u ++ svW c cA m lo a ++ noW c cA n a ++ lyX c cA cC sl X) [(cA, .int), (cC, .object "StaffHeads$Chord")] sz [.ref (c 0), .int p1, .int p2]) (va_Qi (fun (r9 : Int32) (x : cS) => r9 = (if okI p1 0 (nI n - 1) ∧ okI p2 0 (nI n - 1) then bv (rAt (a 7) (a 9) p2.toNatClampNeg (a 7 p1.toNatClampNeg) (a 9 p1.toNatClampNeg) ∧ cSh ((xL x).1 1) ((xL x).1 2) (a 12) (a 11) p1.toNatClampNeg p2.toNatClampNeg) else -1001) ∧ ((okI p1 0 (nI n - 1) ∧ okI p2 0 (nI n - 1)) → LK a n m (xL x)) ∧ cQ u n m lo a x) (wB D (shW c u ++ svW c cA m lo a ++ noW c cA n a ++ lyX c cA cC sl X) sz (cX c cA cC)) (va_A (shW c u ++ svW c cA m lo a ++ noW c cA n a ++ lyX c cA cC sl X) sz)) 0 0 (va_A (shW c u ++ svW c cA m lo a ++ noW c cA n a ++ lyX c cA cC sl X) sz) := by
  refine w_head (C := RX5) (cc := cX5_shared) (maxL := 3) (ret := (some .int)) [(0, .ref (c 0)), (1, .int p1), (2, .int p2)] (by decide) rfl rfl (Nat.le_of_ble_eq_true rfl) rfl ?_
  intro p e s mi below meth cd hx hb hr hlk hml hown hin hts hP hD hS hA hK ls hl
  have hiX50 : ∀ w ∈ wsX50, w ∈ wsX5_shared := fun w h => List.mem_cons_of_mem _ (List.mem_append_left _ (List.mem_append_left _ (List.mem_append_left _ (List.mem_append_left _ (List.mem_append_left _ (List.mem_append_right _ h))))))
  have f0 := hts (.fieldLink RX5 19 "StaffHeads" "notes" "LStaffHeads$Notes;") (List.mem_of_getElem? (i := 1) rfl)
  have f1 := hts (.fieldLink RX5 26 "StaffHeads" "layout" "LStaffHeads$Layout;") (List.mem_of_getElem? (i := 2) rfl)
  have f2 := hts (.fieldLink RX5 10 "StaffHeads" "staves" "LStaffHeads$Staves;") (List.mem_of_getElem? (i := 3) rfl)
  have hK1 : kK D [(cA, .int)] s := ⟨hK.1.sub [0] rfl, hK.2⟩
  have hn : n ≤ 60 := hW.1
  have hm : m ≤ 12 := hW.2.1
  refine lv_aload_n hx hb dX5_shared_0 rfl (lv_at hl 0 rfl) ?_
  refine va_get (D := D) (ci := 5) (v := .ref (c 7)) (C := RX5) (T := TX5) (N := 7) hx hb hts hiX50 hown hK.1 hP 0 rfl rfl 2 (by decide) f0 (fun _ h9 => h9) rfl dX5_shared_1 ?_
  refine lv_iload_n hx hb dX5_shared_4 rfl (lv_at hl 1 rfl) ?_
  refine rcVi (As := [.int p1]) (rest := []) ⟨hx, hb, hml, hown, hts⟩ (k2_has l0 D c cA n a p1 ) (cwV 1 hts gX5_shared_X2_has rfl rfl rfl (by decide +kernel) ⟨Nat.le_of_ble_eq_true rfl, Nat.le_of_ble_eq_true rfl⟩) (va_recv hK.1 hP (ci := 2) (q0 := 7) rfl rfl) (hP.sub [7, 8, 9, 10, 11, 12, 13] rfl) hK1 rfl hl.1 rfl (Nat.le_of_ble_eq_true rfl) dX5_shared_5 ⟨Nat.zero_le _, Nat.zero_le _⟩ ?_
  refine x_ifeq (tgt := 22) hx hb dX5_shared_8 (by decide) (fun (c_8 : ¬ (okI p1 0 (nI n - 1))) => ?_) (fun (c_8 : okI p1 0 (nI n - 1)) => ?_)
  · refine lv_sipush (v := (-1001)) hx hb dX5_shared_22 (by decide) ?_
    exact w_iret (S0 := cS) (w1 := cX c cA cC) (u, n, m, lo, a, sl, X) hx hb hr hlk hP hD hS ⟨(by rw [if_neg (fun h => c_8 h.1)]), (fun h9 => absurd h9 (fun h => c_8 h.1)), _, _, rfl, hJ, hLK⟩ dX5_shared_25
  · have hj := ok_note hn c_8
    refine lv_aload_n hx hb dX5_shared_11 rfl (lv_at hl 0 rfl) ?_
    refine va_get (D := D) (ci := 5) (v := .ref (c 7)) (C := RX5) (T := TX5) (N := 7) hx hb hts hiX50 hown hK.1 hP 0 rfl rfl 2 (by decide) f0 (fun _ h9 => h9) rfl dX5_shared_12 ?_
    refine lv_iload_n hx hb dX5_shared_15 rfl (lv_at hl 2 rfl) ?_
    refine rcVi (As := [.int p2]) (rest := []) ⟨hx, hb, hml, hown, hts⟩ (k2_has l0 D c cA n a p2 ) (cwV 1 hts gX5_shared_X2_has rfl rfl rfl (by decide +kernel) ⟨Nat.le_of_ble_eq_true rfl, Nat.le_of_ble_eq_true rfl⟩) (va_recv hK.1 hP (ci := 2) (q0 := 7) rfl rfl) (hP.sub [7, 8, 9, 10, 11, 12, 13] rfl) hK1 rfl hl.1 rfl (Nat.le_of_ble_eq_true rfl) dX5_shared_16 ⟨Nat.zero_le _, Nat.zero_le _⟩ ?_
    refine x_ifne (tgt := 26) hx hb dX5_shared_19 (by decide) (fun (c_19 : okI p2 0 (nI n - 1)) => ?_) (fun (c_19 : ¬ (okI p2 0 (nI n - 1))) => ?_)
    · have hj2 := ok_note hn c_19
      refine lv_aload_n hx hb dX5_shared_26 rfl (lv_at hl 0 rfl) ?_
      refine va_get (D := D) (ci := 5) (v := .ref (c 14)) (C := RX5) (T := TX5) (N := 7) hx hb hts hiX50 hown hK.1 hP 0 rfl rfl 3 (by decide) f1 (fun _ h9 => h9) rfl dX5_shared_27 ?_
      refine lv_aload_n hx hb dX5_shared_30 rfl (lv_at hl 0 rfl) ?_
      refine va_get (D := D) (ci := 5) (v := .ref (c 7)) (C := RX5) (T := TX5) (N := 7) hx hb hts hiX50 hown hK.1 hP 0 rfl rfl 2 (by decide) f0 (fun _ h9 => h9) rfl dX5_shared_31 ?_
      refine lv_aload_n hx hb dX5_shared_34 rfl (lv_at hl 0 rfl) ?_
      refine va_get (D := D) (ci := 5) (v := .ref (c 1)) (C := RX5) (T := TX5) (N := 7) hx hb hts hiX50 hown hK.1 hP 0 rfl rfl 1 (by decide) f2 (fun _ h9 => h9) rfl dX5_shared_35 ?_
      refine wcVv (S0 := lS) (wr := shW c u) (As := [.ref (c 7), .ref (c 1)]) (rest := []) ⟨hx, hb, hml, hown, hts⟩ (k1_refresh l0 D c cA cC sl X n m lo a _ hW hLo hJ hLK) (cwV 2 hts gX5_shared_X1_refresh rfl rfl rfl (by decide +kernel) ⟨Nat.le_of_ble_eq_true rfl, Nat.le_of_ble_eq_true rfl⟩) (va_recv hK.1 hP (ci := 1) (q0 := 14) rfl rfl) hP hD hS hA hK [14, 15, 16, 17, 18, 19, 20, 21, 22, 23, 24, 25, 26, 27, 28, 29, 30, 31, 32, 33, 34, 35, 36, 7, 8, 9, 10, 11, 12, 13, 1, 2, 3, 4, 5, 6] [0] rfl rfl (by decide) (by decide) (by decide) rfl hl.1 rfl (Nat.le_of_ble_eq_true rfl) dX5_shared_38 ⟨Nat.zero_le _, Nat.zero_le _⟩ (fun X1 H locs hX1 hP hD hS => ?_)
      have hP : va_P D vwCl (shW c u ++ svW c cA m lo a ++ noW c cA n a ++ lyX c cA cC False X1) H := hP.sub [0, 31, 32, 33, 34, 35, 36, 24, 25, 26, 27, 28, 29, 30, 1, 2, 3, 4, 5, 6, 7, 8, 9, 10, 11, 12, 13, 14, 15, 16, 17, 18, 19, 20, 21, 22, 23] rfl
      have hD : va_D (va_A (shW c u ++ svW c cA m lo a ++ noW c cA n a ++ lyX c cA cC sl X) sz) (shW c u ++ svW c cA m lo a ++ noW c cA n a ++ lyX c cA cC False X1) := hD.sub [0, 31, 32, 33, 34, 35, 36, 24, 25, 26, 27, 28, 29, 30, 1, 2, 3, 4, 5, 6, 7, 8, 9, 10, 11, 12, 13, 14, 15, 16, 17, 18, 19, 20, 21, 22, 23] (by decide) rfl
      refine lv_aload_n hx hb dX5_shared_41 rfl (lv_at hl 0 rfl) ?_
      refine va_get (D := D) (ci := 5) (v := .ref (c 7)) (C := RX5) (T := TX5) (N := 7) hx hb hts hiX50 hown hK.1 hP 0 rfl rfl 2 (by decide) f0 (fun _ h9 => h9) rfl dX5_shared_42 ?_
      refine lv_iload_n hx hb dX5_shared_45 rfl (lv_at hl 1 rfl) ?_
      refine x_tp (y := nI p1.toNatClampNeg) hj.1 ?_
      refine lv_iload_n hx hb dX5_shared_46 rfl (lv_at hl 2 rfl) ?_
      refine x_tp (y := nI p2.toNatClampNeg) hj2.1 ?_
      refine rcVi (As := [.int (nI p1.toNatClampNeg), .int (nI p2.toNatClampNeg)]) (rest := []) ⟨hx, hb, hml, hown, hts⟩ (k2_together l0 D c cA n a p1.toNatClampNeg p2.toNatClampNeg (by omega) (by omega)) (cwV 2 hts gX5_shared_X2_together rfl rfl rfl (by decide +kernel) ⟨Nat.le_of_ble_eq_true rfl, Nat.le_of_ble_eq_true rfl⟩) (va_recv hK.1 hP (ci := 2) (q0 := 7) rfl rfl) (hP.sub [7, 8, 9, 10, 11, 12, 13] rfl) hK1 rfl hl.1 rfl (Nat.le_of_ble_eq_true rfl) dX5_shared_47 ⟨Nat.zero_le _, Nat.zero_le _⟩ ?_
      refine x_ifeq (tgt := 73) hx hb dX5_shared_50 (by decide) (fun (c_50 : ¬ (rAt (a 7) (a 9) p2.toNatClampNeg (a 7 p1.toNatClampNeg) (a 9 p1.toNatClampNeg))) => ?_) (fun (c_50 : rAt (a 7) (a 9) p2.toNatClampNeg (a 7 p1.toNatClampNeg) (a 9 p1.toNatClampNeg)) => ?_)
      · refine lv_iconst (v := 0) hx hb dX5_shared_73 (by decide) ?_
        exact w_iret (S0 := cS) (w1 := cX c cA cC) (u, n, m, lo, a, False, X1) hx hb hr hlk hP hD hS ⟨(by rw [if_pos ⟨c_8, c_19⟩]; exact (bv_f (fun h => c_50 h.1)).symm), fun _ => hX1.2, _, _, rfl, hX1.1, fun _ => hX1.2⟩ dX5_shared_74
      · refine lv_aload_n hx hb dX5_shared_53 rfl (lv_at hl 0 rfl) ?_
        refine va_get (D := D) (ci := 5) (v := .ref (c 14)) (C := RX5) (T := TX5) (N := 7) hx hb hts hiX50 hown hK.1 hP 0 rfl rfl 3 (by decide) f1 (fun _ h9 => h9) rfl dX5_shared_54 ?_
        refine lv_aload_n hx hb dX5_shared_57 rfl (lv_at hl 0 rfl) ?_
        refine va_get (D := D) (ci := 5) (v := .ref (c 7)) (C := RX5) (T := TX5) (N := 7) hx hb hts hiX50 hown hK.1 hP 0 rfl rfl 2 (by decide) f0 (fun _ h9 => h9) rfl dX5_shared_58 ?_
        refine lv_iload_n hx hb dX5_shared_61 rfl (lv_at hl 1 rfl) ?_
        refine x_tp (y := nI p1.toNatClampNeg) hj.1 ?_
        refine lv_iload_n hx hb dX5_shared_62 rfl (lv_at hl 2 rfl) ?_
        refine x_tp (y := nI p2.toNatClampNeg) hj2.1 ?_
        refine rcVi (As := [.ref (c 7), .int (nI p1.toNatClampNeg), .int (nI p2.toNatClampNeg)]) (rest := []) ⟨hx, hb, hml, hown, hts⟩ (k1_areShared l0 D c cA cC False (X1.1 1) (X1.1 2) (X1.1 3) (X1.1 4) (X1.1 5) X1.2.1 (X1.1 7) (X1.1 8) (X1.1 9) (X1.1 10) (X1.1 11) (X1.1 12) n a p1.toNatClampNeg p2.toNatClampNeg (by omega) (by omega)) (cwV 3 hts gX5_shared_X1_areShared rfl rfl rfl (by decide +kernel) ⟨Nat.le_of_ble_eq_true rfl, Nat.le_of_ble_eq_true rfl⟩) (va_recv hK.1 hP (ci := 1) (q0 := 14) rfl rfl) (hP.sub [14, 15, 16, 17, 18, 19, 20, 21, 22, 23, 24, 25, 26, 27, 7, 8, 9, 10, 11, 12, 13] rfl) hK rfl hl.1 rfl (Nat.le_of_ble_eq_true rfl) dX5_shared_63 ⟨Nat.zero_le _, Nat.zero_le _⟩ ?_
        refine x_ifeq (tgt := 73) hx hb dX5_shared_66 (by decide) (fun (c_66 : ¬ (cSh (X1.1 1) (X1.1 2) (a 12) (a 11) p1.toNatClampNeg p2.toNatClampNeg)) => ?_) (fun (c_66 : cSh (X1.1 1) (X1.1 2) (a 12) (a 11) p1.toNatClampNeg p2.toNatClampNeg) => ?_)
        · refine lv_iconst (v := 0) hx hb dX5_shared_73 (by decide) ?_
          exact w_iret (S0 := cS) (w1 := cX c cA cC) (u, n, m, lo, a, False, X1) hx hb hr hlk hP hD hS ⟨(by rw [if_pos ⟨c_8, c_19⟩]; exact (bv_f (fun h => c_66 h.2)).symm), fun _ => hX1.2, _, _, rfl, hX1.1, fun _ => hX1.2⟩ dX5_shared_74
        · refine lv_iconst (v := 1) hx hb dX5_shared_69 (by decide) ?_
          refine lv_goto (tgt := 74) hx hb dX5_shared_70 (by decide) ?_
          exact w_iret (S0 := cS) (w1 := cX c cA cC) (u, n, m, lo, a, False, X1) hx hb hr hlk hP hD hS ⟨(by rw [if_pos ⟨c_8, c_19⟩]; exact (bv_t ⟨c_50, c_66⟩).symm), fun _ => hX1.2, _, _, rfl, hX1.1, fun _ => hX1.2⟩ dX5_shared_74
    · refine lv_sipush (v := (-1001)) hx hb dX5_shared_22 (by decide) ?_
      exact w_iret (S0 := cS) (w1 := cX c cA cC) (u, n, m, lo, a, sl, X) hx hb hr hlk hP hD hS ⟨(by rw [if_neg (fun h => c_19 h.2)]), (fun h9 => absurd h9 (fun h => c_19 h.2)), _, _, rfl, hJ, hLK⟩ dX5_shared_25

set_option maxHeartbeats 4000000 in
set_option maxRecDepth 100000 in
theorem k5_gap (l0 : Launch) (D : va_G) (c : Nat → Nat) (cA cC : ClassId) (u : Nat → Int32) (n m : Nat) (lo : Nat → Int32) (a : Nat → Nat → Int32) (sl : Prop) (X : lS) (sz : Nat) (p1 : Int32) (hW : WF n m a) (hLo : LoOK lo a) (hJ : JK X) (hLK : ¬ sl → LK a n m X) : Met l0 yX5_gap wsX5_gap ({ frames := 6, cells := 0, slots := 0, locals := 144 }) (wPc D (shW c u ++ svW c cA m lo a ++ noW c cA n a ++ lyX c cA cC sl X) [(cA, .int), (cC, .object "StaffHeads$Chord")] sz [.ref (c 0), .int p1]) (va_Qi (fun (r9 : Int32) (x : cS) => r9 = (if okI p1 0 3 then (if p1 = 0 ∨ rHidA (a 7) (u 4) p1 n then -1000 else cGap ((xL x).1 7) ((xL x).1 8) (u 2) (u 3) (rUpr (a 7) (u 4) n (p1.toNatClampNeg - 1)) p1.toNatClampNeg 100) else -1001) ∧ ((okI p1 0 3 ∧ ¬ (p1 = 0 ∨ rHidA (a 7) (u 4) p1 n)) → LK a n m (xL x)) ∧ cQ u n m lo a x) (wB D (shW c u ++ svW c cA m lo a ++ noW c cA n a ++ lyX c cA cC sl X) sz (cX c cA cC)) (va_A (shW c u ++ svW c cA m lo a ++ noW c cA n a ++ lyX c cA cC sl X) sz)) 0 0 (va_A (shW c u ++ svW c cA m lo a ++ noW c cA n a ++ lyX c cA cC sl X) sz) := by
  refine w_head (C := RX5) (cc := cX5_gap) (maxL := 2) (ret := (some .int)) [(0, .ref (c 0)), (1, .int p1)] (by decide) rfl rfl (Nat.le_of_ble_eq_true rfl) rfl ?_
  intro p e s mi below meth cd hx hb hr hlk hml hown hin hts hP hD hS hA hK ls hl
  have hiX50 : ∀ w ∈ wsX50, w ∈ wsX5_gap := fun w h => List.mem_cons_of_mem _ (List.mem_append_left _ (List.mem_append_left _ (List.mem_append_left _ (List.mem_append_left _ (List.mem_append_left _ (List.mem_append_right _ h))))))
  have f0 := hts (.fieldLink RX5 26 "StaffHeads" "layout" "LStaffHeads$Layout;") (List.mem_of_getElem? (i := 1) rfl)
  have f1 := hts (.fieldLink RX5 19 "StaffHeads" "notes" "LStaffHeads$Notes;") (List.mem_of_getElem? (i := 2) rfl)
  have f2 := hts (.fieldLink RX5 10 "StaffHeads" "staves" "LStaffHeads$Staves;") (List.mem_of_getElem? (i := 3) rfl)
  have hK1 : kK D [(cA, .int)] s := ⟨hK.1.sub [0] rfl, hK.2⟩
  have hn : n ≤ 60 := hW.1
  have hm : m ≤ 12 := hW.2.1
  refine lv_iload_n hx hb dX5_gap_0 rfl (lv_at hl 1 rfl) ?_
  refine rcSi (As := [.int p1]) (rest := []) ⟨hx, hb, hml, hown, hts⟩ (k5_isStaff l0 p1) (va_cwS 1 hts gX5_gap_X5_isStaff rfl rfl rfl (by decide +kernel) ⟨Nat.le_of_ble_eq_true rfl, Nat.le_of_ble_eq_true rfl⟩) rfl hl.1 rfl (Nat.le_of_ble_eq_true rfl) dX5_gap_1 ⟨Nat.zero_le _, Nat.zero_le _⟩ ?_
  refine x_ifne (tgt := 11) hx hb dX5_gap_4 (by decide) (fun (c_4 : okI p1 0 3) => ?_) (fun (c_4 : ¬ (okI p1 0 3)) => ?_)
  · have hj := okI_nat (N := 3) (by decide) c_4
    have hhp : rHidA (a 7) (u 4) (nI p1.toNatClampNeg) n ↔ rHidA (a 7) (u 4) p1 n := by rw [← hj.1]
    refine lv_iload_n hx hb dX5_gap_11 rfl (lv_at hl 1 rfl) ?_
    refine lv_if_eq (tgt := 23) hx hb dX5_gap_12 (by decide) (fun c_12 => ?_) (fun c_12 => ?_)
    · refine lv_sipush (v := (-1000)) hx hb dX5_gap_23 (by decide) ?_
      exact w_iret (S0 := cS) (w1 := cX c cA cC) (u, n, m, lo, a, sl, X) hx hb hr hlk hP hD hS ⟨(by rw [if_pos c_4, if_pos (Or.inl c_12)]), (fun h9 => absurd h9 (fun h => h.2 (Or.inl c_12))), _, _, rfl, hJ, hLK⟩ dX5_gap_26
    · refine lv_aload_n hx hb dX5_gap_15 rfl (lv_at hl 0 rfl) ?_
      refine lv_iload_n hx hb dX5_gap_16 rfl (lv_at hl 1 rfl) ?_
      refine x_tp (y := nI p1.toNatClampNeg) hj.1 ?_
      refine rcVi (As := [.int (nI p1.toNatClampNeg)]) (rest := []) ⟨hx, hb, hml, hown, hts⟩ (k5_isHidden l0 D c cA cC u n a p1.toNatClampNeg (by omega) (by omega)) (cwV 1 hts gX5_gap_X5_isHidden rfl rfl rfl (by decide +kernel) ⟨Nat.le_of_ble_eq_true rfl, Nat.le_of_ble_eq_true rfl⟩) (va_recv hK.1 hP (ci := 5) (q0 := 0) rfl rfl) (hP.sub [0, 7, 8, 9, 10, 11, 12, 13] rfl) hK rfl hl.1 rfl (Nat.le_of_ble_eq_true rfl) dX5_gap_17 ⟨Nat.zero_le _, Nat.zero_le _⟩ ?_
      refine x_ifeq (tgt := 27) hx hb dX5_gap_20 (by decide) (fun (c_20 : ¬ (rHidA (a 7) (u 4) (nI p1.toNatClampNeg) n)) => ?_) (fun (c_20 : rHidA (a 7) (u 4) (nI p1.toNatClampNeg) n) => ?_)
      · have hj3 : 0 < p1.toNatClampNeg := Nat.pos_of_ne_zero (fun q => c_12 (by rw [hj.1, q]; rfl))
        have hj4 : p1 = nI (p1.toNatClampNeg - 1 + 1) := by rw [Nat.sub_add_cancel hj3]; exact hj.1
        have hup := rUpr_le (a 7) (u 4) n (p1.toNatClampNeg - 1)
        refine lv_aload_n hx hb dX5_gap_27 rfl (lv_at hl 0 rfl) ?_
        refine va_get (D := D) (ci := 5) (v := .ref (c 14)) (C := RX5) (T := TX5) (N := 7) hx hb hts hiX50 hown hK.1 hP 0 rfl rfl 3 (by decide) f0 (fun _ h9 => h9) rfl dX5_gap_28 ?_
        refine lv_aload_n hx hb dX5_gap_31 rfl (lv_at hl 0 rfl) ?_
        refine va_get (D := D) (ci := 5) (v := .ref (c 7)) (C := RX5) (T := TX5) (N := 7) hx hb hts hiX50 hown hK.1 hP 0 rfl rfl 2 (by decide) f1 (fun _ h9 => h9) rfl dX5_gap_32 ?_
        refine lv_aload_n hx hb dX5_gap_35 rfl (lv_at hl 0 rfl) ?_
        refine va_get (D := D) (ci := 5) (v := .ref (c 1)) (C := RX5) (T := TX5) (N := 7) hx hb hts hiX50 hown hK.1 hP 0 rfl rfl 1 (by decide) f2 (fun _ h9 => h9) rfl dX5_gap_36 ?_
        refine wcVv (S0 := lS) (wr := shW c u) (As := [.ref (c 7), .ref (c 1)]) (rest := []) ⟨hx, hb, hml, hown, hts⟩ (k1_refresh l0 D c cA cC sl X n m lo a _ hW hLo hJ hLK) (cwV 2 hts gX5_gap_X1_refresh rfl rfl rfl (by decide +kernel) ⟨Nat.le_of_ble_eq_true rfl, Nat.le_of_ble_eq_true rfl⟩) (va_recv hK.1 hP (ci := 1) (q0 := 14) rfl rfl) hP hD hS hA hK [14, 15, 16, 17, 18, 19, 20, 21, 22, 23, 24, 25, 26, 27, 28, 29, 30, 31, 32, 33, 34, 35, 36, 7, 8, 9, 10, 11, 12, 13, 1, 2, 3, 4, 5, 6] [0] rfl rfl (by decide) (by decide) (by decide) rfl hl.1 rfl (Nat.le_of_ble_eq_true rfl) dX5_gap_39 ⟨Nat.zero_le _, Nat.zero_le _⟩ (fun X1 H locs hX1 hP hD hS => ?_)
        have hP : va_P D vwCl (shW c u ++ svW c cA m lo a ++ noW c cA n a ++ lyX c cA cC False X1) H := hP.sub [0, 31, 32, 33, 34, 35, 36, 24, 25, 26, 27, 28, 29, 30, 1, 2, 3, 4, 5, 6, 7, 8, 9, 10, 11, 12, 13, 14, 15, 16, 17, 18, 19, 20, 21, 22, 23] rfl
        have hD : va_D (va_A (shW c u ++ svW c cA m lo a ++ noW c cA n a ++ lyX c cA cC sl X) sz) (shW c u ++ svW c cA m lo a ++ noW c cA n a ++ lyX c cA cC False X1) := hD.sub [0, 31, 32, 33, 34, 35, 36, 24, 25, 26, 27, 28, 29, 30, 1, 2, 3, 4, 5, 6, 7, 8, 9, 10, 11, 12, 13, 14, 15, 16, 17, 18, 19, 20, 21, 22, 23] (by decide) rfl
        refine lv_aload_n hx hb dX5_gap_42 rfl (lv_at hl 0 rfl) ?_
        refine lv_aload_n hx hb dX5_gap_43 rfl (lv_at hl 0 rfl) ?_
        refine lv_iload_n hx hb dX5_gap_44 rfl (lv_at hl 1 rfl) ?_
        refine x_tp (y := nI (p1.toNatClampNeg - 1 + 1)) hj4 ?_
        refine rcVi (As := [.int (nI (p1.toNatClampNeg - 1 + 1))]) (rest := [.ref (c 0)]) ⟨hx, hb, hml, hown, hts⟩ (k5_shownAbove l0 D c cA cC u n a (p1.toNatClampNeg - 1) (by omega) (by omega)) (cwV 1 hts gX5_gap_X5_shownAbove rfl rfl rfl (by decide +kernel) ⟨Nat.le_of_ble_eq_true rfl, Nat.le_of_ble_eq_true rfl⟩) (va_recv hK.1 hP (ci := 5) (q0 := 0) rfl rfl) (hP.sub [0, 7, 8, 9, 10, 11, 12, 13] rfl) hK rfl hl.1 rfl (Nat.le_of_ble_eq_true rfl) dX5_gap_45 ⟨Nat.zero_le _, Nat.zero_le _⟩ ?_
        refine lv_iload_n hx hb dX5_gap_48 rfl (lv_at hl 1 rfl) ?_
        refine x_tp (y := nI p1.toNatClampNeg) hj.1 ?_
        refine rcVi (As := [.int (nI (rUpr (a 7) (u 4) n (p1.toNatClampNeg - 1))), .int (nI p1.toNatClampNeg)]) (rest := []) ⟨hx, hb, hml, hown, hts⟩ (k5_gapBetween l0 D c cA cC u False X1 (rUpr (a 7) (u 4) n (p1.toNatClampNeg - 1)) p1.toNatClampNeg (by omega) (by omega)) (cwV 2 hts gX5_gap_X5_gapBetween rfl rfl rfl (by decide +kernel) ⟨Nat.le_of_ble_eq_true rfl, Nat.le_of_ble_eq_true rfl⟩) (va_recv hK.1 hP (ci := 5) (q0 := 0) rfl rfl) (hP.sub [0, 14, 15, 16, 17, 18, 19, 20, 21, 22, 23, 24, 25, 26, 27, 28, 29, 30, 31, 32, 33, 34, 35, 36] rfl) hK rfl hl.1 rfl (Nat.le_of_ble_eq_true rfl) dX5_gap_49 ⟨Nat.zero_le _, Nat.zero_le _⟩ ?_
        exact w_iret (S0 := cS) (w1 := cX c cA cC) (u, n, m, lo, a, False, X1) hx hb hr hlk hP hD hS ⟨(by rw [if_pos c_4, if_neg (fun h => h.elim c_12 (fun q => c_20 (hhp.mpr q)))]), fun _ => hX1.2, _, _, rfl, hX1.1, fun _ => hX1.2⟩ dX5_gap_52
      · refine lv_sipush (v := (-1000)) hx hb dX5_gap_23 (by decide) ?_
        exact w_iret (S0 := cS) (w1 := cX c cA cC) (u, n, m, lo, a, sl, X) hx hb hr hlk hP hD hS ⟨(by rw [if_pos c_4, if_pos (Or.inr (hhp.mp c_20))]), (fun h9 => absurd h9 (fun h => h.2 (Or.inr (hhp.mp c_20)))), _, _, rfl, hJ, hLK⟩ dX5_gap_26
  · refine lv_sipush (v := (-1001)) hx hb dX5_gap_7 (by decide) ?_
    exact w_iret (S0 := cS) (w1 := cX c cA cC) (u, n, m, lo, a, sl, X) hx hb hr hlk hP hD hS ⟨(by rw [if_neg c_4]), (fun h9 => absurd h9 (fun h => c_4 h.1)), _, _, rfl, hJ, hLK⟩ dX5_gap_10

set_option maxHeartbeats 4000000 in
set_option maxRecDepth 100000 in
theorem k5_place (l0 : Launch) (D : va_G) (c : Nat → Nat) (cA cC : ClassId) (u : Nat → Int32) (n m : Nat) (lo : Nat → Int32) (a : Nat → Nat → Int32) (sl : Prop) (X : lS) (sz : Nat) (p1 : Int32) (hW : WF n m a) (hLo : LoOK lo a) (hJ : JK X) (hLK : ¬ sl → LK a n m X) : Met l0 yX5_place wsX5_place ({ frames := 6, cells := 0, slots := 0, locals := 144 }) (wPc D (shW c u ++ svW c cA m lo a ++ noW c cA n a ++ lyX c cA cC sl X) [(cA, .int), (cC, .object "StaffHeads$Chord")] sz [.ref (c 0), .int p1]) (va_Ql (fun (r9 : Int64) (x : cS) => r9 = (if okI p1 0 3 then (if rHidA (a 7) (u 4) p1 n then -1000 else (u 1).toInt64 * (cDown (a 7) (u 4) n ((xL x).1 7) ((xL x).1 8) (u 2) (u 3) p1.toNatClampNeg).toInt64) else -1001) ∧ ((okI p1 0 3 ∧ ¬ rHidA (a 7) (u 4) p1 n) → LK a n m (xL x)) ∧ cQ u n m lo a x) (wB D (shW c u ++ svW c cA m lo a ++ noW c cA n a ++ lyX c cA cC sl X) sz (cX c cA cC)) (va_A (shW c u ++ svW c cA m lo a ++ noW c cA n a ++ lyX c cA cC sl X) sz)) 0 0 (va_A (shW c u ++ svW c cA m lo a ++ noW c cA n a ++ lyX c cA cC sl X) sz) := by
  refine w_head (C := RX5) (cc := cX5_place) (maxL := 2) (ret := (some .long)) [(0, .ref (c 0)), (1, .int p1)] (by decide) rfl rfl (Nat.le_of_ble_eq_true rfl) rfl ?_
  intro p e s mi below meth cd hx hb hr hlk hml hown hin hts hP hD hS hA hK ls hl
  have hiX50 : ∀ w ∈ wsX50, w ∈ wsX5_place := fun w h => List.mem_cons_of_mem _ (List.mem_append_left _ (List.mem_append_left _ (List.mem_append_left _ (List.mem_append_left _ (List.mem_append_left _ (List.mem_append_right _ h))))))
  have f0 := hts (.fieldLink RX5 26 "StaffHeads" "layout" "LStaffHeads$Layout;") (List.mem_of_getElem? (i := 3) rfl)
  have f1 := hts (.fieldLink RX5 19 "StaffHeads" "notes" "LStaffHeads$Notes;") (List.mem_of_getElem? (i := 4) rfl)
  have f2 := hts (.fieldLink RX5 10 "StaffHeads" "staves" "LStaffHeads$Staves;") (List.mem_of_getElem? (i := 5) rfl)
  have f3 := hts (.fieldLink RX5 46 "StaffHeads" "unit" "I") (List.mem_of_getElem? (i := 6) rfl)
  have f4 := hts (.constantLong RX5 158 (-1000)) (List.mem_of_getElem? (i := 2) rfl)
  have f5 := hts (.constantLong RX5 114 (-1001)) (List.mem_of_getElem? (i := 1) rfl)
  have hK1 : kK D [(cA, .int)] s := ⟨hK.1.sub [0] rfl, hK.2⟩
  have hn : n ≤ 60 := hW.1
  have hm : m ≤ 12 := hW.2.1
  refine lv_iload_n hx hb dX5_place_0 rfl (lv_at hl 1 rfl) ?_
  refine rcSi (As := [.int p1]) (rest := []) ⟨hx, hb, hml, hown, hts⟩ (k5_isStaff l0 p1) (va_cwS 1 hts gX5_place_X5_isStaff rfl rfl rfl (by decide +kernel) ⟨Nat.le_of_ble_eq_true rfl, Nat.le_of_ble_eq_true rfl⟩) rfl hl.1 rfl (Nat.le_of_ble_eq_true rfl) dX5_place_1 ⟨Nat.zero_le _, Nat.zero_le _⟩ ?_
  refine x_ifne (tgt := 11) hx hb dX5_place_4 (by decide) (fun (c_4 : okI p1 0 3) => ?_) (fun (c_4 : ¬ (okI p1 0 3)) => ?_)
  · have hj := okI_nat (N := 3) (by decide) c_4
    have hhp : rHidA (a 7) (u 4) (nI p1.toNatClampNeg) n ↔ rHidA (a 7) (u 4) p1 n := by rw [← hj.1]
    refine lv_aload_n hx hb dX5_place_11 rfl (lv_at hl 0 rfl) ?_
    refine lv_iload_n hx hb dX5_place_12 rfl (lv_at hl 1 rfl) ?_
    refine x_tp (y := nI p1.toNatClampNeg) hj.1 ?_
    refine rcVi (As := [.int (nI p1.toNatClampNeg)]) (rest := []) ⟨hx, hb, hml, hown, hts⟩ (k5_isHidden l0 D c cA cC u n a p1.toNatClampNeg (by omega) (by omega)) (cwV 1 hts gX5_place_X5_isHidden rfl rfl rfl (by decide +kernel) ⟨Nat.le_of_ble_eq_true rfl, Nat.le_of_ble_eq_true rfl⟩) (va_recv hK.1 hP (ci := 5) (q0 := 0) rfl rfl) (hP.sub [0, 7, 8, 9, 10, 11, 12, 13] rfl) hK rfl hl.1 rfl (Nat.le_of_ble_eq_true rfl) dX5_place_13 ⟨Nat.zero_le _, Nat.zero_le _⟩ ?_
    refine x_ifeq (tgt := 23) hx hb dX5_place_16 (by decide) (fun (c_16 : ¬ (rHidA (a 7) (u 4) (nI p1.toNatClampNeg) n)) => ?_) (fun (c_16 : rHidA (a 7) (u 4) (nI p1.toNatClampNeg) n) => ?_)
    · refine lv_aload_n hx hb dX5_place_23 rfl (lv_at hl 0 rfl) ?_
      refine va_get (D := D) (ci := 5) (v := .ref (c 14)) (C := RX5) (T := TX5) (N := 7) hx hb hts hiX50 hown hK.1 hP 0 rfl rfl 3 (by decide) f0 (fun _ h9 => h9) rfl dX5_place_24 ?_
      refine lv_aload_n hx hb dX5_place_27 rfl (lv_at hl 0 rfl) ?_
      refine va_get (D := D) (ci := 5) (v := .ref (c 7)) (C := RX5) (T := TX5) (N := 7) hx hb hts hiX50 hown hK.1 hP 0 rfl rfl 2 (by decide) f1 (fun _ h9 => h9) rfl dX5_place_28 ?_
      refine lv_aload_n hx hb dX5_place_31 rfl (lv_at hl 0 rfl) ?_
      refine va_get (D := D) (ci := 5) (v := .ref (c 1)) (C := RX5) (T := TX5) (N := 7) hx hb hts hiX50 hown hK.1 hP 0 rfl rfl 1 (by decide) f2 (fun _ h9 => h9) rfl dX5_place_32 ?_
      refine wcVv (S0 := lS) (wr := shW c u) (As := [.ref (c 7), .ref (c 1)]) (rest := []) ⟨hx, hb, hml, hown, hts⟩ (k1_refresh l0 D c cA cC sl X n m lo a _ hW hLo hJ hLK) (cwV 2 hts gX5_place_X1_refresh rfl rfl rfl (by decide +kernel) ⟨Nat.le_of_ble_eq_true rfl, Nat.le_of_ble_eq_true rfl⟩) (va_recv hK.1 hP (ci := 1) (q0 := 14) rfl rfl) hP hD hS hA hK [14, 15, 16, 17, 18, 19, 20, 21, 22, 23, 24, 25, 26, 27, 28, 29, 30, 31, 32, 33, 34, 35, 36, 7, 8, 9, 10, 11, 12, 13, 1, 2, 3, 4, 5, 6] [0] rfl rfl (by decide) (by decide) (by decide) rfl hl.1 rfl (Nat.le_of_ble_eq_true rfl) dX5_place_35 ⟨Nat.zero_le _, Nat.zero_le _⟩ (fun X1 H locs hX1 hP hD hS => ?_)
      have hP : va_P D vwCl (shW c u ++ svW c cA m lo a ++ noW c cA n a ++ lyX c cA cC False X1) H := hP.sub [0, 31, 32, 33, 34, 35, 36, 24, 25, 26, 27, 28, 29, 30, 1, 2, 3, 4, 5, 6, 7, 8, 9, 10, 11, 12, 13, 14, 15, 16, 17, 18, 19, 20, 21, 22, 23] rfl
      have hD : va_D (va_A (shW c u ++ svW c cA m lo a ++ noW c cA n a ++ lyX c cA cC sl X) sz) (shW c u ++ svW c cA m lo a ++ noW c cA n a ++ lyX c cA cC False X1) := hD.sub [0, 31, 32, 33, 34, 35, 36, 24, 25, 26, 27, 28, 29, 30, 1, 2, 3, 4, 5, 6, 7, 8, 9, 10, 11, 12, 13, 14, 15, 16, 17, 18, 19, 20, 21, 22, 23] (by decide) rfl
      refine lv_aload_n hx hb dX5_place_38 rfl (lv_at hl 0 rfl) ?_
      refine va_get (D := D) (ci := 5) (v := .int (u 1)) (C := RX5) (T := TX5) (N := 7) hx hb hts hiX50 hown hK.1 hP 0 rfl rfl 0 (by decide) f3 (fun _ h9 => h9) rfl dX5_place_39 ?_
      refine lv_i2l (v := (u 1).toInt64) hx hb dX5_place_42 rfl ?_
      refine lv_aload_n hx hb dX5_place_43 rfl (lv_at hl 0 rfl) ?_
      refine lv_iload_n hx hb dX5_place_44 rfl (lv_at hl 1 rfl) ?_
      refine x_tp (y := nI p1.toNatClampNeg) hj.1 ?_
      refine rcVi (As := [.int (nI p1.toNatClampNeg)]) (rest := [.long ((u 1).toInt64)]) ⟨hx, hb, hml, hown, hts⟩ (k5_stepsDownTo l0 D c cA cC u n a False X1 p1.toNatClampNeg (by omega) (by omega)) (cwV 1 hts gX5_place_X5_stepsDownTo rfl rfl rfl (by decide +kernel) ⟨Nat.le_of_ble_eq_true rfl, Nat.le_of_ble_eq_true rfl⟩) (va_recv hK.1 hP (ci := 5) (q0 := 0) rfl rfl) (hP.sub [0, 7, 8, 9, 10, 11, 12, 13, 14, 15, 16, 17, 18, 19, 20, 21, 22, 23, 24, 25, 26, 27, 28, 29, 30, 31, 32, 33, 34, 35, 36] rfl) hK rfl hl.1 rfl (Nat.le_of_ble_eq_true rfl) dX5_place_45 ⟨Nat.zero_le _, Nat.zero_le _⟩ ?_
      refine lv_i2l (v := (cDown (a 7) (u 4) n (X1.1 7) (X1.1 8) (u 2) (u 3) p1.toNatClampNeg).toInt64) hx hb dX5_place_48 rfl ?_
      refine lv_lmul hx hb dX5_place_49 ?_
      exact w_lret (S0 := cS) (w1 := cX c cA cC) (u, n, m, lo, a, False, X1) hx hb hr hlk hP hD hS ⟨(by rw [if_pos c_4, if_neg (fun q => c_16 (hhp.mpr q))]), fun _ => hX1.2, _, _, rfl, hX1.1, fun _ => hX1.2⟩ dX5_place_50
    · refine lv_ldc2 (v := (-1000)) hx hb hown f4 dX5_place_19 ?_
      exact w_lret (S0 := cS) (w1 := cX c cA cC) (u, n, m, lo, a, sl, X) hx hb hr hlk hP hD hS ⟨(by rw [if_pos c_4, if_pos (hhp.mp c_16)]), (fun h9 => absurd h9 (fun h => h.2 (hhp.mp c_16))), _, _, rfl, hJ, hLK⟩ dX5_place_22
  · refine lv_ldc2 (v := (-1001)) hx hb hown f5 dX5_place_7 ?_
    exact w_lret (S0 := cS) (w1 := cX c cA cC) (u, n, m, lo, a, sl, X) hx hb hr hlk hP hD hS ⟨(by rw [if_neg c_4]), (fun h9 => absurd h9 (fun h => c_4 h.1)), _, _, rfl, hJ, hLK⟩ dX5_place_10
