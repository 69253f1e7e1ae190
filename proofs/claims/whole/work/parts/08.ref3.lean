set_option maxHeartbeats 4000000 in
set_option maxRecDepth 100000 in
theorem k6_of (l : Launch) (D : va_G) (b : Nat → Nat) (cA : ClassId) (u : Nat → Int32) (n m : Nat) (a : Nat → Nat → Int32) (sz : Nat) (p1 p2 : Int32) (kk vv : Nat) (as : Nat → Int32) (d g : Nat → Nat) (r : Nat → Int32) (hn : n ≤ 60) (hm : m ≤ 12) (hs4 : ∀ k, k < n → a 7 k = nI ((a 7 k).toNatClampNeg) ∧ (a 7 k).toNatClampNeg < 4) (hkk : okI p1 0 (nI n - 1) → p1 = nI kk ∧ kk < n) (hvv : okI p1 0 (nI n - 1) → a 8 kk = nI vv ∧ vv < 3) (has : rAsides (a 7) (a 8) (a 9) (SR a m n) n (a 7 kk) (a 9 kk) as) (hmv : rMoves (a 7) (a 8) (a 9) (SR a m n) (a 12) (a 11) n (a 7 kk) (a 9 kk) (a 15) as d) (hsg : rSigns (a 7) (a 9) (SR a m n) (a 11) (rZero (a 16) n) n (a 7 kk) (a 9 kk) g r) : Met l yX6_of wsX6_of ({ frames := 8, cells := 0, slots := 0, locals := 195 }) (wPc D (mW b cA u n m a) [(cA, .int)] sz [.ref (b 0), .int p1, .int p2]) (va_Qi (fun (r9 : Int32) (x : mS) => r9 = (if okI p1 0 (nI n - 1) then ofAns p2 (SR a m n kk) (bv (rUp (a 7) (a 8) (a 9) (SR a m n) n (a 7 kk) (a 9 kk) (a 8 kk))) (as kk) ((rCol (a 7) (a 8) (a 9) (a 7 kk) (a 9 kk) n (a 15) as d 3) kk) ((rSgn (rZero (a 16) n) g r (rLeft (a 7) (a 9) (a 11) (a 7 kk) (a 9 kk) n)) kk) (nI (d vv)) (nI (rMany (a 7) (a 8) (a 9) (a 7 kk) (a 9 kk) (a 8 kk) n)) else -1001) ∧ mQ u n m a 0 x) (wB D (mW b cA u n m a) sz (mX b cA)) (va_A (mW b cA u n m a) sz)) 0 0 (va_A (mW b cA u n m a) sz) := by
  refine w_head (C := RX6) (cc := cX6_of) (maxL := 4) (ret := (some .int)) [(0, .ref (b 0)), (1, .int p1), (2, .int p2)] (by decide) rfl rfl (Nat.le_of_ble_eq_true rfl) rfl ?_
  intro p e s mi below meth c hx hb hr hlk hml hown hin hts hP hD hS hA hK ls hl
  have hiX60 : ∀ w ∈ wsX60, w ∈ wsX6_of := fun w h => List.mem_cons_of_mem _ (List.mem_append_right _ h)
  have f0 := hts (.fieldLink RX6 69 "StaffHeadsModel" "thrown" "I") (List.mem_of_getElem? (i := 1) rfl)
  have f1 := hts (.fieldLink RX6 28 "StaffHeadsModel" "staffOf" "[I") (List.mem_of_getElem? (i := 2) rfl)
  have f2 := hts (.fieldLink RX6 34 "StaffHeadsModel" "tickOf" "[I") (List.mem_of_getElem? (i := 3) rfl)
  have f3 := hts (.fieldLink RX6 59 "StaffHeadsModel" "columnOf" "[I") (List.mem_of_getElem? (i := 4) rfl)
  have f4 := hts (.fieldLink RX6 62 "StaffHeadsModel" "signColumn" "[I") (List.mem_of_getElem? (i := 5) rfl)
  have f5 := hts (.fieldLink RX6 56 "StaffHeadsModel" "movedBy" "[I") (List.mem_of_getElem? (i := 6) rfl)
  have f6 := hts (.fieldLink RX6 31 "StaffHeadsModel" "voiceOf" "[I") (List.mem_of_getElem? (i := 7) rfl)
  refine lv_aload_n hx hb dX6_of_0 rfl (lv_at hl 0 rfl) ?_
  refine lv_iconst (v := 0) hx hb dX6_of_1 (by decide) ?_
  refine va_put (D := D) (ci := 6) (v := .int 0) (ty := .int) (C := RX6) (T := TX6) (N := 23) hx hb hts hiX60 tyX6 tyX6_ok nmX6 hown hK.1 hP hD hS 0 rfl rfl 0 (by decide) f0 (fun _ h9 => h9) rfl (by decide +kernel) rfl rfl (Nat.le_of_ble_eq_true rfl) dX6_of_2 (fun H locs hP hD hS => ?_)
  have hP : va_P D vwCl (mW b cA (va_up u 0 0) n m a) H := hP
  have hD : va_D (va_A (mW b cA u n m a) sz) (mW b cA (va_up u 0 0) n m a) := hD
  refine lv_aload_n hx hb dX6_of_5 rfl (lv_at hl 0 rfl) ?_
  refine lv_iload_n hx hb dX6_of_6 rfl (lv_at hl 1 rfl) ?_
  refine rcVi (As := [.int p1]) (rest := []) ⟨hx, hb, hml, hown, hts⟩ (k6_isNote l D b cA (va_up u 0 0) n m a p1 ) (cwV 1 hts gX6_of_X6_isNote rfl rfl rfl (by decide +kernel) ⟨Nat.le_of_ble_eq_true rfl, Nat.le_of_ble_eq_true rfl⟩) (va_recv hK.1 hP (ci := 6) (q0 := 0) rfl rfl) hP hK rfl hl.1 rfl (Nat.le_of_ble_eq_true rfl) dX6_of_7 ⟨Nat.zero_le _, Nat.zero_le _⟩ ?_
  refine x_ifne (tgt := 17) hx hb dX6_of_10 (by decide) (fun (c_10 : ¬ p1 < 0 ∧ ¬ nI n - 1 < p1) => ?_) (fun (c_10 : ¬ (¬ p1 < 0 ∧ ¬ nI n - 1 < p1)) => ?_)
  · obtain ⟨hk1, hk2⟩ := hkk c_10
    obtain ⟨hv1, hv2⟩ := hvv c_10
    have hl := lv_cast (l' := [(0, .ref (b 0)), (1, .int (nI kk)), (2, .int p2)]) hl (by rw [show p1 = nI kk from hk1])
    refine lv_aload_n hx hb dX6_of_17 rfl (lv_at hl 0 rfl) ?_
    refine wcVv (S0 := Unit) (wr := []) (As := []) (rest := []) ⟨hx, hb, hml, hown, hts⟩ (k6_reckon l D b cA (va_up u 0 0) n m a H.size (by omega) (by omega) hs4) (cwV 0 hts gX6_of_X6_reckon rfl rfl rfl (by decide +kernel) ⟨Nat.le_of_ble_eq_true rfl, Nat.le_of_ble_eq_true rfl⟩) (va_recv hK.1 hP (ci := 6) (q0 := 0) rfl rfl) hP hD hS hA hK [0, 1, 2, 3, 4, 5, 6, 7, 8, 9, 10, 11, 12, 13, 14, 15, 16] [] rfl rfl (by decide) (by decide) (by decide) rfl hl.1 rfl (Nat.le_of_ble_eq_true rfl) dX6_of_18 ⟨Nat.zero_le _, Nat.zero_le _⟩ (fun _ H locs _ hP hD hS => ?_)
    have hP : va_P D vwCl (mW b cA (va_up u 0 0) n m (va_up a 13 (SR a m n))) H := hP
    have hD : va_D (va_A (mW b cA u n m a) sz) (mW b cA (va_up u 0 0) n m (va_up a 13 (SR a m n))) := hD
    refine lv_aload_n hx hb dX6_of_21 rfl (lv_at hl 0 rfl) ?_
    refine lv_iload_n hx hb dX6_of_22 rfl (lv_at hl 1 rfl) ?_
    refine rcVi (As := [.int (nI kk)]) (rest := []) ⟨hx, hb, hml, hown, hts⟩ (k6_step l D b cA (va_up u 0 0) n m (va_up a 13 (SR a m n)) kk (by omega)) (cwV 1 hts gX6_of_X6_step rfl rfl rfl (by decide +kernel) ⟨Nat.le_of_ble_eq_true rfl, Nat.le_of_ble_eq_true rfl⟩) (va_recv hK.1 hP (ci := 6) (q0 := 0) rfl rfl) hP hK rfl hl.1 rfl (Nat.le_of_ble_eq_true rfl) dX6_of_23 ⟨Nat.zero_le _, Nat.zero_le _⟩ ?_
    refine lv_istore_n (lv' := [(3, .int ((SR a m n) kk)), (0, .ref (b 0)), (1, .int (nI kk)), (2, .int p2)]) hx hb dX6_of_26 rfl hl (by decide) rfl (fun ls hl => ?_)
    refine lv_iload_n hx hb dX6_of_27 rfl (lv_at hl 3 rfl) ?_
    by_cases hw_0 : p2 = 0
    · refine x_tp (y := 0) hw_0 ?_
      refine lv_tableIn (tgt := 80) hx hb dX6_of_28 (by decide) (by decide) rfl (by decide) ?_
      refine lv_iload_n hx hb dX6_of_80 rfl (lv_at hl 0 rfl) ?_
      exact w_iret (S0 := mS) (w1 := mX b cA) (va_up u 0 0, n, m, va_up a 13 (SR a m n)) hx hb hr hlk hP hD hS ⟨(by rw [if_pos c_10, ofAns, if_pos hw_0] <;> rfl), _, rfl, fun i hi => (by rw [va_up_ne _ _ (by omega)])⟩ dX6_of_81
    by_cases hw_1 : p2 = 1
    · refine x_tp (y := 1) hw_1 ?_
      refine lv_tableIn (tgt := 82) hx hb dX6_of_28 (by decide) (by decide) rfl (by decide) ?_
      refine lv_iload_n hx hb dX6_of_82 rfl (lv_at hl 0 rfl) ?_
      refine x_cge (tgt := 93) hx hb dX6_of_83 (by decide) (fun c_83 => ?_) (fun c_83 => ?_)
      · refine lv_iconst (v := 0) hx hb dX6_of_93 (by decide) ?_
        exact w_iret (S0 := mS) (w1 := mX b cA) (va_up u 0 0, n, m, va_up a 13 (SR a m n)) hx hb hr hlk hP hD hS ⟨(by rw [if_pos c_10, ofAns, if_neg hw_0, if_pos hw_1, if_neg c_83] <;> rfl), _, rfl, fun i hi => (by rw [va_up_ne _ _ (by omega)])⟩ dX6_of_94
      · refine lv_iload_n hx hb dX6_of_86 rfl (lv_at hl 0 rfl) ?_
        refine lv_ineg hx hb dX6_of_87 ?_
        refine lv_iconst (v := 2) hx hb dX6_of_88 (by decide) ?_
        refine lv_idiv hx hb dX6_of_89 (by decide) ?_
        refine lv_goto (tgt := 94) hx hb dX6_of_90 (by decide) ?_
        exact w_iret (S0 := mS) (w1 := mX b cA) (va_up u 0 0, n, m, va_up a 13 (SR a m n)) hx hb hr hlk hP hD hS ⟨(by rw [if_pos c_10, ofAns, if_neg hw_0, if_pos hw_1, if_pos c_83] <;> rfl), _, rfl, fun i hi => (by rw [va_up_ne _ _ (by omega)])⟩ dX6_of_94
    by_cases hw_2 : p2 = 2
    · refine x_tp (y := 2) hw_2 ?_
      refine lv_tableIn (tgt := 95) hx hb dX6_of_28 (by decide) (by decide) rfl (by decide) ?_
      refine lv_iload_n hx hb dX6_of_95 rfl (lv_at hl 0 rfl) ?_
      refine lv_bipush (v := 8) hx hb dX6_of_96 (by decide) ?_
      refine x_ile (tgt := 110) hx hb dX6_of_98 (by decide) (fun c_98 => ?_) (fun c_98 => ?_)
      · refine lv_iconst (v := 0) hx hb dX6_of_110 (by decide) ?_
        exact w_iret (S0 := mS) (w1 := mX b cA) (va_up u 0 0, n, m, va_up a 13 (SR a m n)) hx hb hr hlk hP hD hS ⟨(by rw [if_pos c_10, ofAns, if_neg hw_0, if_neg hw_1, if_pos hw_2, if_neg c_98] <;> rfl), _, rfl, fun i hi => (by rw [va_up_ne _ _ (by omega)])⟩ dX6_of_111
      · refine lv_iload_n hx hb dX6_of_101 rfl (lv_at hl 0 rfl) ?_
        refine lv_bipush (v := 8) hx hb dX6_of_102 (by decide) ?_
        refine lv_isub hx hb dX6_of_104 ?_
        refine lv_iconst (v := 2) hx hb dX6_of_105 (by decide) ?_
        refine lv_idiv hx hb dX6_of_106 (by decide) ?_
        refine lv_goto (tgt := 111) hx hb dX6_of_107 (by decide) ?_
        exact w_iret (S0 := mS) (w1 := mX b cA) (va_up u 0 0, n, m, va_up a 13 (SR a m n)) hx hb hr hlk hP hD hS ⟨(by rw [if_pos c_10, ofAns, if_neg hw_0, if_neg hw_1, if_pos hw_2, if_pos c_98] <;> rfl), _, rfl, fun i hi => (by rw [va_up_ne _ _ (by omega)])⟩ dX6_of_111
    by_cases hw_3 : p2 = 3
    · refine x_tp (y := 3) hw_3 ?_
      refine lv_tableIn (tgt := 112) hx hb dX6_of_28 (by decide) (by decide) rfl (by decide) ?_
      refine lv_aload_n hx hb dX6_of_112 rfl (lv_at hl 1 rfl) ?_
      refine lv_iload_n hx hb dX6_of_113 rfl (lv_at hl 2 rfl) ?_
      refine rcVi (As := [.int (nI kk)]) (rest := []) ⟨hx, hb, hml, hown, hts⟩ (k6_stemOf l D b cA (va_up u 0 0) n m (va_up a 13 (SR a m n)) kk (by omega) (by omega)) (cwV 1 hts gX6_of_X6_stemOf rfl rfl rfl (by decide +kernel) ⟨Nat.le_of_ble_eq_true rfl, Nat.le_of_ble_eq_true rfl⟩) (va_recv hK.1 hP (ci := 6) (q0 := 0) rfl rfl) hP hK rfl hl.1 rfl (Nat.le_of_ble_eq_true rfl) dX6_of_114 ⟨Nat.zero_le _, Nat.zero_le _⟩ ?_
      exact w_iret (S0 := mS) (w1 := mX b cA) (va_up u 0 0, n, m, va_up a 13 (SR a m n)) hx hb hr hlk hP hD hS ⟨(by rw [if_pos c_10, ofAns, if_neg hw_0, if_neg hw_1, if_neg hw_2, if_pos hw_3] <;> rfl), _, rfl, fun i hi => (by rw [va_up_ne _ _ (by omega)])⟩ dX6_of_117
    by_cases hw_4 : p2 = 4
    · refine x_tp (y := 4) hw_4 ?_
      refine lv_tableIn (tgt := 118) hx hb dX6_of_28 (by decide) (by decide) rfl (by decide) ?_
      refine lv_aload_n hx hb dX6_of_118 rfl (lv_at hl 1 rfl) ?_
      refine lv_iload_n hx hb dX6_of_119 rfl (lv_at hl 2 rfl) ?_
      obtain ⟨fx, qx, hqx, hex, hax⟩ := has kk hk2 ⟨rfl, rfl⟩
      refine rcVi (As := [.int (nI kk)]) (rest := []) ⟨hx, hb, hml, hown, hts⟩ (k6_aside l D b cA (va_up u 0 0) n m (va_up a 13 (SR a m n)) kk fx qx hk2 hqx (by omega) hex) (cwV 1 hts gX6_of_X6_aside rfl rfl rfl (by decide +kernel) ⟨Nat.le_of_ble_eq_true rfl, Nat.le_of_ble_eq_true rfl⟩) (va_recv hK.1 hP (ci := 6) (q0 := 0) rfl rfl) hP hK rfl hl.1 rfl (Nat.le_of_ble_eq_true rfl) dX6_of_120 ⟨Nat.zero_le _, Nat.zero_le _⟩ ?_
      refine x_tp (y := as kk) hax.symm ?_
      exact w_iret (S0 := mS) (w1 := mX b cA) (va_up u 0 0, n, m, va_up a 13 (SR a m n)) hx hb hr hlk hP hD hS ⟨(by rw [if_pos c_10, ofAns, if_neg hw_0, if_neg hw_1, if_neg hw_2, if_neg hw_3, if_pos hw_4] <;> rfl), _, rfl, fun i hi => (by rw [va_up_ne _ _ (by omega)])⟩ dX6_of_123
    by_cases hw_5 : p2 = 5
    · refine x_tp (y := 5) hw_5 ?_
      refine lv_tableIn (tgt := 124) hx hb dX6_of_28 (by decide) (by decide) rfl (by decide) ?_
      refine lv_aload_n hx hb dX6_of_124 rfl (lv_at hl 1 rfl) ?_
      refine lv_aload_n hx hb dX6_of_125 rfl (lv_at hl 1 rfl) ?_
      refine va_get (D := D) (ci := 6) (v := .ref (b 7)) (C := RX6) (T := TX6) (N := 23) hx hb hts hiX60 hown hK.1 hP 0 rfl rfl 10 (by decide) f1 (fun _ h9 => h9) rfl dX6_of_126 ?_
      refine lv_iload_n hx hb dX6_of_129 rfl (lv_at hl 2 rfl) ?_
      refine x_iald hx hb hK hP 7 0 rfl rfl (k := kk) (by omega) (by decide) dX6_of_130 ?_
      refine lv_aload_n hx hb dX6_of_131 rfl (lv_at hl 1 rfl) ?_
      refine va_get (D := D) (ci := 6) (v := .ref (b 9)) (C := RX6) (T := TX6) (N := 23) hx hb hts hiX60 hown hK.1 hP 0 rfl rfl 12 (by decide) f2 (fun _ h9 => h9) rfl dX6_of_132 ?_
      refine lv_iload_n hx hb dX6_of_135 rfl (lv_at hl 2 rfl) ?_
      refine x_iald hx hb hK hP 9 0 rfl rfl (k := kk) (by omega) (by decide) dX6_of_136 ?_
      refine wcVv (S0 := Unit) (wr := []) (As := [.int (a 7 kk), .int (a 9 kk)]) (rest := []) ⟨hx, hb, hml, hown, hts⟩ (k6_move l D b cA (va_up u 0 0) n m (va_up a 13 (SR a m n)) H.size (a 7 kk) (a 9 kk) as d (by omega) has hmv) (cwV 2 hts gX6_of_X6_move rfl rfl rfl (by decide +kernel) ⟨Nat.le_of_ble_eq_true rfl, Nat.le_of_ble_eq_true rfl⟩) (va_recv hK.1 hP (ci := 6) (q0 := 0) rfl rfl) hP hD hS hA hK [0, 1, 2, 3, 4, 5, 6, 7, 8, 9, 10, 11, 12, 13, 14, 15, 16] [] rfl rfl (by decide) (by decide) (by decide) rfl hl.1 rfl (Nat.le_of_ble_eq_true rfl) dX6_of_137 ⟨Nat.zero_le _, Nat.zero_le _⟩ (fun _ H locs _ hP hD hS => ?_)
      have hP : va_P D vwCl (mW b cA (va_up u 0 0) n m (va_up (va_up (va_up a 13 (SR a m n)) 14 (rMvB (a 14) d 3)) 15 (rCol (a 7) (a 8) (a 9) (a 7 kk) (a 9 kk) n (a 15) as d 3))) H := hP
      have hD : va_D (va_A (mW b cA u n m a) sz) (mW b cA (va_up u 0 0) n m (va_up (va_up (va_up a 13 (SR a m n)) 14 (rMvB (a 14) d 3)) 15 (rCol (a 7) (a 8) (a 9) (a 7 kk) (a 9 kk) n (a 15) as d 3))) := hD
      refine lv_aload_n hx hb dX6_of_140 rfl (lv_at hl 1 rfl) ?_
      refine va_get (D := D) (ci := 6) (v := .ref (b 15)) (C := RX6) (T := TX6) (N := 23) hx hb hts hiX60 hown hK.1 hP 0 rfl rfl 21 (by decide) f3 (fun _ h9 => h9) rfl dX6_of_141 ?_
      refine lv_iload_n hx hb dX6_of_144 rfl (lv_at hl 2 rfl) ?_
      refine x_iald hx hb hK hP 15 0 rfl rfl (k := kk) (by omega) (by decide) dX6_of_145 ?_
      exact w_iret (S0 := mS) (w1 := mX b cA) (va_up u 0 0, n, m, va_up (va_up (va_up a 13 (SR a m n)) 14 (rMvB (a 14) d 3)) 15 (rCol (a 7) (a 8) (a 9) (a 7 kk) (a 9 kk) n (a 15) as d 3)) hx hb hr hlk hP hD hS ⟨(by rw [if_pos c_10, ofAns, if_neg hw_0, if_neg hw_1, if_neg hw_2, if_neg hw_3, if_neg hw_4, if_pos hw_5] <;> rfl), _, rfl, fun i hi => (by rw [va_up_ne _ _ (by omega), va_up_ne _ _ (by omega), va_up_ne _ _ (by omega)])⟩ dX6_of_146
    by_cases hw_6 : p2 = 6
    · refine x_tp (y := 6) hw_6 ?_
      refine lv_tableIn (tgt := 147) hx hb dX6_of_28 (by decide) (by decide) rfl (by decide) ?_
      refine lv_aload_n hx hb dX6_of_147 rfl (lv_at hl 1 rfl) ?_
      refine lv_aload_n hx hb dX6_of_148 rfl (lv_at hl 1 rfl) ?_
      refine va_get (D := D) (ci := 6) (v := .ref (b 7)) (C := RX6) (T := TX6) (N := 23) hx hb hts hiX60 hown hK.1 hP 0 rfl rfl 10 (by decide) f1 (fun _ h9 => h9) rfl dX6_of_149 ?_
      refine lv_iload_n hx hb dX6_of_152 rfl (lv_at hl 2 rfl) ?_
      refine x_iald hx hb hK hP 7 0 rfl rfl (k := kk) (by omega) (by decide) dX6_of_153 ?_
      refine lv_aload_n hx hb dX6_of_154 rfl (lv_at hl 1 rfl) ?_
      refine va_get (D := D) (ci := 6) (v := .ref (b 9)) (C := RX6) (T := TX6) (N := 23) hx hb hts hiX60 hown hK.1 hP 0 rfl rfl 12 (by decide) f2 (fun _ h9 => h9) rfl dX6_of_155 ?_
      refine lv_iload_n hx hb dX6_of_158 rfl (lv_at hl 2 rfl) ?_
      refine x_iald hx hb hK hP 9 0 rfl rfl (k := kk) (by omega) (by decide) dX6_of_159 ?_
      refine wcVv (S0 := Unit) (wr := []) (As := [.int (a 7 kk), .int (a 9 kk)]) (rest := []) ⟨hx, hb, hml, hown, hts⟩ (k6_placeSigns l D b cA (va_up u 0 0) n m (va_up a 13 (SR a m n)) H.size (a 7 kk) (a 9 kk) g r (by omega) hsg) (cwV 2 hts gX6_of_X6_placeSigns rfl rfl rfl (by decide +kernel) ⟨Nat.le_of_ble_eq_true rfl, Nat.le_of_ble_eq_true rfl⟩) (va_recv hK.1 hP (ci := 6) (q0 := 0) rfl rfl) hP hD hS hA hK [0, 1, 2, 3, 4, 5, 6, 7, 8, 9, 10, 11, 12, 13, 14, 15, 16] [] rfl rfl (by decide) (by decide) (by decide) rfl hl.1 rfl (Nat.le_of_ble_eq_true rfl) dX6_of_160 ⟨Nat.zero_le _, Nat.zero_le _⟩ (fun _ H locs _ hP hD hS => ?_)
      have hP : va_P D vwCl (mW b cA (va_up u 0 0) n m (va_up (va_up a 13 (SR a m n)) 16 (rSgn (rZero (a 16) n) g r (rLeft (a 7) (a 9) (a 11) (a 7 kk) (a 9 kk) n)))) H := hP
      have hD : va_D (va_A (mW b cA u n m a) sz) (mW b cA (va_up u 0 0) n m (va_up (va_up a 13 (SR a m n)) 16 (rSgn (rZero (a 16) n) g r (rLeft (a 7) (a 9) (a 11) (a 7 kk) (a 9 kk) n)))) := hD
      refine lv_aload_n hx hb dX6_of_163 rfl (lv_at hl 1 rfl) ?_
      refine va_get (D := D) (ci := 6) (v := .ref (b 16)) (C := RX6) (T := TX6) (N := 23) hx hb hts hiX60 hown hK.1 hP 0 rfl rfl 22 (by decide) f4 (fun _ h9 => h9) rfl dX6_of_164 ?_
      refine lv_iload_n hx hb dX6_of_167 rfl (lv_at hl 2 rfl) ?_
      refine x_iald hx hb hK hP 16 0 rfl rfl (k := kk) (by omega) (by decide) dX6_of_168 ?_
      exact w_iret (S0 := mS) (w1 := mX b cA) (va_up u 0 0, n, m, va_up (va_up a 13 (SR a m n)) 16 (rSgn (rZero (a 16) n) g r (rLeft (a 7) (a 9) (a 11) (a 7 kk) (a 9 kk) n))) hx hb hr hlk hP hD hS ⟨(by rw [if_pos c_10, ofAns, if_neg hw_0, if_neg hw_1, if_neg hw_2, if_neg hw_3, if_neg hw_4, if_neg hw_5, if_pos hw_6] <;> rfl), _, rfl, fun i hi => (by rw [va_up_ne _ _ (by omega), va_up_ne _ _ (by omega)])⟩ dX6_of_169
    by_cases hw_7 : p2 = 7
    · refine x_tp (y := 7) hw_7 ?_
      refine lv_tableIn (tgt := 170) hx hb dX6_of_28 (by decide) (by decide) rfl (by decide) ?_
      refine lv_aload_n hx hb dX6_of_170 rfl (lv_at hl 1 rfl) ?_
      refine lv_aload_n hx hb dX6_of_171 rfl (lv_at hl 1 rfl) ?_
      refine va_get (D := D) (ci := 6) (v := .ref (b 7)) (C := RX6) (T := TX6) (N := 23) hx hb hts hiX60 hown hK.1 hP 0 rfl rfl 10 (by decide) f1 (fun _ h9 => h9) rfl dX6_of_172 ?_
      refine lv_iload_n hx hb dX6_of_175 rfl (lv_at hl 2 rfl) ?_
      refine x_iald hx hb hK hP 7 0 rfl rfl (k := kk) (by omega) (by decide) dX6_of_176 ?_
      refine lv_aload_n hx hb dX6_of_177 rfl (lv_at hl 1 rfl) ?_
      refine va_get (D := D) (ci := 6) (v := .ref (b 9)) (C := RX6) (T := TX6) (N := 23) hx hb hts hiX60 hown hK.1 hP 0 rfl rfl 12 (by decide) f2 (fun _ h9 => h9) rfl dX6_of_178 ?_
      refine lv_iload_n hx hb dX6_of_181 rfl (lv_at hl 2 rfl) ?_
      refine x_iald hx hb hK hP 9 0 rfl rfl (k := kk) (by omega) (by decide) dX6_of_182 ?_
      refine wcVv (S0 := Unit) (wr := []) (As := [.int (a 7 kk), .int (a 9 kk)]) (rest := []) ⟨hx, hb, hml, hown, hts⟩ (k6_move l D b cA (va_up u 0 0) n m (va_up a 13 (SR a m n)) H.size (a 7 kk) (a 9 kk) as d (by omega) has hmv) (cwV 2 hts gX6_of_X6_move rfl rfl rfl (by decide +kernel) ⟨Nat.le_of_ble_eq_true rfl, Nat.le_of_ble_eq_true rfl⟩) (va_recv hK.1 hP (ci := 6) (q0 := 0) rfl rfl) hP hD hS hA hK [0, 1, 2, 3, 4, 5, 6, 7, 8, 9, 10, 11, 12, 13, 14, 15, 16] [] rfl rfl (by decide) (by decide) (by decide) rfl hl.1 rfl (Nat.le_of_ble_eq_true rfl) dX6_of_183 ⟨Nat.zero_le _, Nat.zero_le _⟩ (fun _ H locs _ hP hD hS => ?_)
      have hP : va_P D vwCl (mW b cA (va_up u 0 0) n m (va_up (va_up (va_up a 13 (SR a m n)) 14 (rMvB (a 14) d 3)) 15 (rCol (a 7) (a 8) (a 9) (a 7 kk) (a 9 kk) n (a 15) as d 3))) H := hP
      have hD : va_D (va_A (mW b cA u n m a) sz) (mW b cA (va_up u 0 0) n m (va_up (va_up (va_up a 13 (SR a m n)) 14 (rMvB (a 14) d 3)) 15 (rCol (a 7) (a 8) (a 9) (a 7 kk) (a 9 kk) n (a 15) as d 3))) := hD
      refine lv_aload_n hx hb dX6_of_186 rfl (lv_at hl 1 rfl) ?_
      refine va_get (D := D) (ci := 6) (v := .ref (b 14)) (C := RX6) (T := TX6) (N := 23) hx hb hts hiX60 hown hK.1 hP 0 rfl rfl 20 (by decide) f5 (fun _ h9 => h9) rfl dX6_of_187 ?_
      refine lv_aload_n hx hb dX6_of_190 rfl (lv_at hl 1 rfl) ?_
      refine va_get (D := D) (ci := 6) (v := .ref (b 8)) (C := RX6) (T := TX6) (N := 23) hx hb hts hiX60 hown hK.1 hP 0 rfl rfl 11 (by decide) f6 (fun _ h9 => h9) rfl dX6_of_191 ?_
      refine lv_iload_n hx hb dX6_of_194 rfl (lv_at hl 2 rfl) ?_
      refine x_iald hx hb hK hP 8 0 rfl rfl (k := kk) (by omega) (by decide) dX6_of_195 ?_
      refine x_tp (y := nI vv) hv1 ?_
      refine x_iald hx hb hK hP 14 0 rfl rfl (k := vv) (by omega) (by decide) dX6_of_196 ?_
      refine x_tp (y := nI (d vv)) (rMvB_3 (mv := a 14) (d := d) hv2) ?_
      exact w_iret (S0 := mS) (w1 := mX b cA) (va_up u 0 0, n, m, va_up (va_up (va_up a 13 (SR a m n)) 14 (rMvB (a 14) d 3)) 15 (rCol (a 7) (a 8) (a 9) (a 7 kk) (a 9 kk) n (a 15) as d 3)) hx hb hr hlk hP hD hS ⟨(by rw [if_pos c_10, ofAns, if_neg hw_0, if_neg hw_1, if_neg hw_2, if_neg hw_3, if_neg hw_4, if_neg hw_5, if_neg hw_6, if_pos hw_7] <;> rfl), _, rfl, fun i hi => (by rw [va_up_ne _ _ (by omega), va_up_ne _ _ (by omega), va_up_ne _ _ (by omega)])⟩ dX6_of_197
    by_cases hw_8 : p2 = 8
    · refine x_tp (y := 8) hw_8 ?_
      refine lv_tableIn (tgt := 198) hx hb dX6_of_28 (by decide) (by decide) rfl (by decide) ?_
      refine lv_aload_n hx hb dX6_of_198 rfl (lv_at hl 1 rfl) ?_
      refine lv_aload_n hx hb dX6_of_199 rfl (lv_at hl 1 rfl) ?_
      refine va_get (D := D) (ci := 6) (v := .ref (b 7)) (C := RX6) (T := TX6) (N := 23) hx hb hts hiX60 hown hK.1 hP 0 rfl rfl 10 (by decide) f1 (fun _ h9 => h9) rfl dX6_of_200 ?_
      refine lv_iload_n hx hb dX6_of_203 rfl (lv_at hl 2 rfl) ?_
      refine x_iald hx hb hK hP 7 0 rfl rfl (k := kk) (by omega) (by decide) dX6_of_204 ?_
      refine lv_aload_n hx hb dX6_of_205 rfl (lv_at hl 1 rfl) ?_
      refine va_get (D := D) (ci := 6) (v := .ref (b 9)) (C := RX6) (T := TX6) (N := 23) hx hb hts hiX60 hown hK.1 hP 0 rfl rfl 12 (by decide) f2 (fun _ h9 => h9) rfl dX6_of_206 ?_
      refine lv_iload_n hx hb dX6_of_209 rfl (lv_at hl 2 rfl) ?_
      refine x_iald hx hb hK hP 9 0 rfl rfl (k := kk) (by omega) (by decide) dX6_of_210 ?_
      refine lv_aload_n hx hb dX6_of_211 rfl (lv_at hl 1 rfl) ?_
      refine va_get (D := D) (ci := 6) (v := .ref (b 8)) (C := RX6) (T := TX6) (N := 23) hx hb hts hiX60 hown hK.1 hP 0 rfl rfl 11 (by decide) f6 (fun _ h9 => h9) rfl dX6_of_212 ?_
      refine lv_iload_n hx hb dX6_of_215 rfl (lv_at hl 2 rfl) ?_
      refine x_iald hx hb hK hP 8 0 rfl rfl (k := kk) (by omega) (by decide) dX6_of_216 ?_
      refine rcVi (As := [.int (a 7 kk), .int (a 9 kk), .int (a 8 kk)]) (rest := []) ⟨hx, hb, hml, hown, hts⟩ (k6_many l D b cA (va_up u 0 0) n m (va_up a 13 (SR a m n)) (a 7 kk) (a 9 kk) (a 8 kk) (by omega)) (cwV 3 hts gX6_of_X6_many rfl rfl rfl (by decide +kernel) ⟨Nat.le_of_ble_eq_true rfl, Nat.le_of_ble_eq_true rfl⟩) (va_recv hK.1 hP (ci := 6) (q0 := 0) rfl rfl) hP hK rfl hl.1 rfl (Nat.le_of_ble_eq_true rfl) dX6_of_217 ⟨Nat.zero_le _, Nat.zero_le _⟩ ?_
      exact w_iret (S0 := mS) (w1 := mX b cA) (va_up u 0 0, n, m, va_up a 13 (SR a m n)) hx hb hr hlk hP hD hS ⟨(by rw [if_pos c_10, ofAns, if_neg hw_0, if_neg hw_1, if_neg hw_2, if_neg hw_3, if_neg hw_4, if_neg hw_5, if_neg hw_6, if_neg hw_7, if_pos hw_8] <;> rfl), _, rfl, fun i hi => (by rw [va_up_ne _ _ (by omega)])⟩ dX6_of_220
    refine lv_tableOut (tgt := 221) hx hb dX6_of_28 (sw_out (N := 8) (fun j hj => match j, hj with | 0, _ => hw_0 | 1, _ => hw_1 | 2, _ => hw_2 | 3, _ => hw_3 | 4, _ => hw_4 | 5, _ => hw_5 | 6, _ => hw_6 | 7, _ => hw_7 | 8, _ => hw_8 | k9 + 9, h9 => absurd h9 (by omega)) (by decide)) (by decide) ?_
    refine lv_sipush (v := (-1002)) hx hb dX6_of_221 (by decide) ?_
    exact w_iret (S0 := mS) (w1 := mX b cA) (va_up u 0 0, n, m, va_up a 13 (SR a m n)) hx hb hr hlk hP hD hS ⟨(by rw [if_pos c_10, ofAns, if_neg hw_0, if_neg hw_1, if_neg hw_2, if_neg hw_3, if_neg hw_4, if_neg hw_5, if_neg hw_6, if_neg hw_7, if_neg hw_8] <;> rfl), _, rfl, fun i hi => (by rw [va_up_ne _ _ (by omega)])⟩ dX6_of_224
  · refine lv_sipush (v := (-1001)) hx hb dX6_of_13 (by decide) ?_
    exact w_iret (S0 := mS) (w1 := mX b cA) (va_up u 0 0, n, m, a) hx hb hr hlk hP hD hS ⟨(by rw [if_neg c_10]), _, rfl, fun i hi => rfl⟩ dX6_of_16

set_option maxHeartbeats 4000000 in
set_option maxRecDepth 100000 in
theorem k6_at (l : Launch) (D : va_G) (b : Nat → Nat) (cA : ClassId) (u : Nat → Int32) (n m : Nat) (a : Nat → Nat → Int32) (sz : Nat) (p1 p2 p3 : Int32) (g : Nat → Nat) (r : Nat → Int32) (hn : n ≤ 60) (hm : m ≤ 12) (hs4 : ∀ k, k < n → a 7 k = nI ((a 7 k).toNatClampNeg) ∧ (a 7 k).toNatClampNeg < 4) (hsg : rSigns (a 7) (a 9) (SR a m n) (a 11) (rZero (a 16) n) n p1 p2 g r) : Met l yX6_at wsX6_at ({ frames := 6, cells := 0, slots := 0, locals := 148 }) (wPc D (mW b cA u n m a) [(cA, .int)] sz [.ref (b 0), .int p1, .int p2, .int p3]) (va_Qi (fun (r9 : Int32) (x : mS) => r9 = (if okI p1 0 3 then (if okI p2 0 99 ∧ okI p3 0 4 then atAns p3 (rHigh (a 7) (a 8) (a 9) (SR a m n) (a 12) n p1 p2 n) (rLow (a 7) (a 8) (a 9) (SR a m n) (a 12) n p1 p2 n) (nI (rAll (a 7) (a 8) (a 9) n p1 p2 3)) (nI (rChs (a 7) (a 8) (a 9) n p1 p2 3)) (rMost (rSgn (rZero (a 16) n) g r (rLeft (a 7) (a 9) (a 11) p1 p2 n)) n) else -1002) else -1001) ∧ mQ u n m a 0 x) (wB D (mW b cA u n m a) sz (mX b cA)) (va_A (mW b cA u n m a) sz)) 0 0 (va_A (mW b cA u n m a) sz) := by
  refine w_head (C := RX6) (cc := cX6_at) (maxL := 8) (ret := (some .int)) [(0, .ref (b 0)), (1, .int p1), (2, .int p2), (3, .int p3)] (by decide) rfl rfl (Nat.le_of_ble_eq_true rfl) rfl ?_
  intro p e s mi below meth c hx hb hr hlk hml hown hin hts hP hD hS hA hK ls hl
  have hiX60 : ∀ w ∈ wsX60, w ∈ wsX6_at := fun w h => List.mem_cons_of_mem _ (List.mem_append_right _ h)
  have f0 := hts (.fieldLink RX6 69 "StaffHeadsModel" "thrown" "I") (List.mem_of_getElem? (i := 1) rfl)
  have f1 := hts (.fieldLink RX6 76 "StaffHeadsModel" "notes" "I") (List.mem_of_getElem? (i := 2) rfl)
  have f2 := hts (.fieldLink RX6 62 "StaffHeadsModel" "signColumn" "[I") (List.mem_of_getElem? (i := 3) rfl)
  refine lv_aload_n hx hb dX6_at_0 rfl (lv_at hl 0 rfl) ?_
  refine lv_iconst (v := 0) hx hb dX6_at_1 (by decide) ?_
  refine va_put (D := D) (ci := 6) (v := .int 0) (ty := .int) (C := RX6) (T := TX6) (N := 23) hx hb hts hiX60 tyX6 tyX6_ok nmX6 hown hK.1 hP hD hS 0 rfl rfl 0 (by decide) f0 (fun _ h9 => h9) rfl (by decide +kernel) rfl rfl (Nat.le_of_ble_eq_true rfl) dX6_at_2 (fun H locs hP hD hS => ?_)
  have hP : va_P D vwCl (mW b cA (va_up u 0 0) n m a) H := hP
  have hD : va_D (va_A (mW b cA u n m a) sz) (mW b cA (va_up u 0 0) n m a) := hD
  refine lv_iload_n hx hb dX6_at_5 rfl (lv_at hl 1 rfl) ?_
  refine rcSi (As := [.int p1]) (rest := []) ⟨hx, hb, hml, hown, hts⟩ (k6_isStaff l p1) (va_cwS 1 hts gX6_at_X6_isStaff rfl rfl rfl (by decide +kernel) ⟨Nat.le_of_ble_eq_true rfl, Nat.le_of_ble_eq_true rfl⟩) rfl hl.1 rfl (Nat.le_of_ble_eq_true rfl) dX6_at_6 ⟨Nat.zero_le _, Nat.zero_le _⟩ ?_
  refine x_ifne (tgt := 16) hx hb dX6_at_9 (by decide) (fun (c_9 : ¬ p1 < 0 ∧ ¬ 3 < p1) => ?_) (fun (c_9 : ¬ (¬ p1 < 0 ∧ ¬ 3 < p1)) => ?_)
  · refine lv_iload_n hx hb dX6_at_16 rfl (lv_at hl 2 rfl) ?_
    refine lv_iconst (v := 0) hx hb dX6_at_17 (by decide) ?_
    refine lv_bipush (v := 99) hx hb dX6_at_18 (by decide) ?_
    refine rcSi (As := [.int p2, .int 0, .int 99]) (rest := []) ⟨hx, hb, hml, hown, hts⟩ (k6_in l p2 0 99) (va_cwS 3 hts gX6_at_X6_in rfl rfl rfl (by decide +kernel) ⟨Nat.le_of_ble_eq_true rfl, Nat.le_of_ble_eq_true rfl⟩) rfl hl.1 rfl (Nat.le_of_ble_eq_true rfl) dX6_at_20 ⟨Nat.zero_le _, Nat.zero_le _⟩ ?_
    refine x_ifeq (tgt := 35) hx hb dX6_at_23 (by decide) (fun (c_23 : ¬ (¬ p2 < 0 ∧ ¬ 99 < p2)) => ?_) (fun (c_23 : ¬ p2 < 0 ∧ ¬ 99 < p2) => ?_)
    · refine lv_sipush (v := (-1002)) hx hb dX6_at_35 (by decide) ?_
      exact w_iret (S0 := mS) (w1 := mX b cA) (va_up u 0 0, n, m, a) hx hb hr hlk hP hD hS ⟨(by rw [if_pos c_9, if_neg (fun h => c_23 h.1)]), _, rfl, fun i hi => rfl⟩ dX6_at_38
    · refine lv_iload_n hx hb dX6_at_26 rfl (lv_at hl 3 rfl) ?_
      refine lv_iconst (v := 0) hx hb dX6_at_27 (by decide) ?_
      refine lv_iconst (v := 4) hx hb dX6_at_28 (by decide) ?_
      refine rcSi (As := [.int p3, .int 0, .int 4]) (rest := []) ⟨hx, hb, hml, hown, hts⟩ (k6_in l p3 0 4) (va_cwS 3 hts gX6_at_X6_in rfl rfl rfl (by decide +kernel) ⟨Nat.le_of_ble_eq_true rfl, Nat.le_of_ble_eq_true rfl⟩) rfl hl.1 rfl (Nat.le_of_ble_eq_true rfl) dX6_at_29 ⟨Nat.zero_le _, Nat.zero_le _⟩ ?_
      refine x_ifne (tgt := 39) hx hb dX6_at_32 (by decide) (fun (c_32 : ¬ p3 < 0 ∧ ¬ 4 < p3) => ?_) (fun (c_32 : ¬ (¬ p3 < 0 ∧ ¬ 4 < p3)) => ?_)
      · refine lv_iconst (v := 0) hx hb dX6_at_39 (by decide) ?_
        refine x_tp (y := nI (rAll (a 7) (a 8) (a 9) n p1 p2 0)) (show (0 : Int32) = nI 0 from rfl) ?_
        refine lv_istore (lv' := [(4, .int (nI (rAll (a 7) (a 8) (a 9) n p1 p2 0))), (0, .ref (b 0)), (1, .int p1), (2, .int p2), (3, .int p3)]) hx hb dX6_at_40 hl (by decide) rfl (fun ls hl => ?_)
        refine lv_iconst (v := 0) hx hb dX6_at_42 (by decide) ?_
        refine x_tp (y := nI (rChs (a 7) (a 8) (a 9) n p1 p2 0)) (show (0 : Int32) = nI 0 from rfl) ?_
        refine lv_istore (lv' := [(5, .int (nI (rChs (a 7) (a 8) (a 9) n p1 p2 0))), (4, .int (nI (rAll (a 7) (a 8) (a 9) n p1 p2 0))), (0, .ref (b 0)), (1, .int p1), (2, .int p2), (3, .int p3)]) hx hb dX6_at_43 hl (by decide) rfl (fun ls hl => ?_)
        refine lv_iconst (v := 0) hx hb dX6_at_45 (by decide) ?_
        refine x_tp (y := nI 0) nI_0.symm ?_
        refine lv_istore (lv' := [(6, .int (nI 0)), (5, .int (nI (rChs (a 7) (a 8) (a 9) n p1 p2 0))), (4, .int (nI (rAll (a 7) (a 8) (a 9) n p1 p2 0))), (0, .ref (b 0)), (1, .int p1), (2, .int p2), (3, .int p3)]) hx hb dX6_at_46 hl (by decide) rfl (fun ls hl => ?_)
        refine lpR (G := fun ls => W p l e _ s mi _ below meth c _ _ _ _ _ (F0 mi 48 ls [])) 8 3 (fun v (_ : Unit) => [(0, .ref (b 0)), (1, .int p1), (2, .int p2), (3, .int p3), (4, .int (nI (rAll (a 7) (a 8) (a 9) n p1 p2 v))), (5, .int (nI (rChs (a 7) (a 8) (a 9) n p1 p2 v))), (6, .int (nI v))]) (fun _ _ => True) ?_ 0 () (Nat.zero_le _) trivial (lv_sub hl [3, 4, 5, 6, 2, 1, 0] rfl)
        clear hl ls
        intro v gu hv hvI ls hl ihv
        refine lv_iload hx hb dX6_at_48 (lv_at hl 6 rfl) ?_
        refine lv_iconst (v := 3) hx hb dX6_at_50 (by decide) ?_
        refine x_tp (y := nI 3) (show (3 : Int32) = nI 3 from rfl) ?_
        refine x_nge (tgt := 92) hx hb dX6_at_51 (by decide) (by omega) (by omega) (fun c_51 => ?_) (fun c_51 => ?_)
        · obtain rfl : 3 = v := by omega
          have hl : lv_has ls 8 [(0, .ref (b 0)), (1, .int p1), (2, .int p2), (3, .int p3), (4, .int (nI (rAll (a 7) (a 8) (a 9) n p1 p2 3))), (5, .int (nI (rChs (a 7) (a 8) (a 9) n p1 p2 3)))] := lv_sub hl [0, 1, 2, 3, 4, 5] rfl
          refine lv_iconst (v := 0) hx hb dX6_at_92 (by decide) ?_
          refine x_tp (y := rMost (rSgn (rZero (a 16) n) g r (rLeft (a 7) (a 9) (a 11) p1 p2 n)) 0) rfl ?_
          refine lv_istore (lv' := [(6, .int (rMost (rSgn (rZero (a 16) n) g r (rLeft (a 7) (a 9) (a 11) p1 p2 n)) 0)), (0, .ref (b 0)), (1, .int p1), (2, .int p2), (3, .int p3), (4, .int (nI (rAll (a 7) (a 8) (a 9) n p1 p2 3))), (5, .int (nI (rChs (a 7) (a 8) (a 9) n p1 p2 3)))]) hx hb dX6_at_93 hl (by decide) rfl (fun ls hl => ?_)
          refine lv_aload_n hx hb dX6_at_95 rfl (lv_at hl 1 rfl) ?_
          refine wcVv (S0 := Unit) (wr := []) (As := []) (rest := []) ⟨hx, hb, hml, hown, hts⟩ (k6_reckon l D b cA (va_up u 0 0) n m a H.size (by omega) (by omega) hs4) (cwV 0 hts gX6_at_X6_reckon rfl rfl rfl (by decide +kernel) ⟨Nat.le_of_ble_eq_true rfl, Nat.le_of_ble_eq_true rfl⟩) (va_recv hK.1 hP (ci := 6) (q0 := 0) rfl rfl) hP hD hS hA hK [0, 1, 2, 3, 4, 5, 6, 7, 8, 9, 10, 11, 12, 13, 14, 15, 16] [] rfl rfl (by decide) (by decide) (by decide) rfl hl.1 rfl (Nat.le_of_ble_eq_true rfl) dX6_at_96 ⟨Nat.zero_le _, Nat.zero_le _⟩ (fun _ H locs _ hP hD hS => ?_)
          have hP : va_P D vwCl (mW b cA (va_up u 0 0) n m (va_up a 13 (SR a m n))) H := hP
          have hD : va_D (va_A (mW b cA u n m a) sz) (mW b cA (va_up u 0 0) n m (va_up a 13 (SR a m n))) := hD
          refine lv_aload_n hx hb dX6_at_99 rfl (lv_at hl 1 rfl) ?_
          refine lv_iload_n hx hb dX6_at_100 rfl (lv_at hl 2 rfl) ?_
          refine lv_iload_n hx hb dX6_at_101 rfl (lv_at hl 3 rfl) ?_
          refine wcVv (S0 := Unit) (wr := []) (As := [.int p1, .int p2]) (rest := []) ⟨hx, hb, hml, hown, hts⟩ (k6_placeSigns l D b cA (va_up u 0 0) n m (va_up a 13 (SR a m n)) H.size p1 p2 g r (by omega) hsg) (cwV 2 hts gX6_at_X6_placeSigns rfl rfl rfl (by decide +kernel) ⟨Nat.le_of_ble_eq_true rfl, Nat.le_of_ble_eq_true rfl⟩) (va_recv hK.1 hP (ci := 6) (q0 := 0) rfl rfl) hP hD hS hA hK [0, 1, 2, 3, 4, 5, 6, 7, 8, 9, 10, 11, 12, 13, 14, 15, 16] [] rfl rfl (by decide) (by decide) (by decide) rfl hl.1 rfl (Nat.le_of_ble_eq_true rfl) dX6_at_102 ⟨Nat.zero_le _, Nat.zero_le _⟩ (fun _ H locs _ hP hD hS => ?_)
          have hP : va_P D vwCl (mW b cA (va_up u 0 0) n m (va_up (va_up a 13 (SR a m n)) 16 (rSgn (rZero (a 16) n) g r (rLeft (a 7) (a 9) (a 11) p1 p2 n)))) H := hP
          have hD : va_D (va_A (mW b cA u n m a) sz) (mW b cA (va_up u 0 0) n m (va_up (va_up a 13 (SR a m n)) 16 (rSgn (rZero (a 16) n) g r (rLeft (a 7) (a 9) (a 11) p1 p2 n)))) := hD
          refine lv_iconst (v := 0) hx hb dX6_at_105 (by decide) ?_
          refine x_tp (y := nI 0) nI_0.symm ?_
          refine lv_istore (lv' := [(7, .int (nI 0)), (6, .int (rMost (rSgn (rZero (a 16) n) g r (rLeft (a 7) (a 9) (a 11) p1 p2 n)) 0)), (0, .ref (b 0)), (1, .int p1), (2, .int p2), (3, .int p3), (4, .int (nI (rAll (a 7) (a 8) (a 9) n p1 p2 3))), (5, .int (nI (rChs (a 7) (a 8) (a 9) n p1 p2 3)))]) hx hb dX6_at_106 hl (by decide) rfl (fun ls hl => ?_)
          refine lpR (G := fun ls => W p l e _ s mi _ below meth c _ _ _ _ _ (F0 mi 108 ls [])) 8 n (fun k (_ : Unit) => [(0, .ref (b 0)), (1, .int p1), (2, .int p2), (3, .int p3), (4, .int (nI (rAll (a 7) (a 8) (a 9) n p1 p2 3))), (5, .int (nI (rChs (a 7) (a 8) (a 9) n p1 p2 3))), (6, .int (rMost (rSgn (rZero (a 16) n) g r (rLeft (a 7) (a 9) (a 11) p1 p2 n)) k)), (7, .int (nI k))]) (fun _ _ => True) ?_ 0 () (Nat.zero_le _) trivial (lv_sub hl [2, 3, 4, 5, 6, 7, 1, 0] rfl)
          clear hl ls
          intro k gu hk hkI ls hl ihk
          refine lv_iload hx hb dX6_at_108 (lv_at hl 7 rfl) ?_
          refine lv_aload_n hx hb dX6_at_110 rfl (lv_at hl 0 rfl) ?_
          refine va_get (D := D) (ci := 6) (v := .int (nI n)) (C := RX6) (T := TX6) (N := 23) hx hb hts hiX60 hown hK.1 hP 0 rfl rfl 9 (by decide) f1 (fun _ h9 => h9) rfl dX6_at_111 ?_
          refine x_nge (tgt := 149) hx hb dX6_at_114 (by decide) (by omega) (by omega) (fun c_114 => ?_) (fun c_114 => ?_)
          · obtain rfl : n = k := by omega
            refine lv_iload_n hx hb dX6_at_149 rfl (lv_at hl 3 rfl) ?_
            refine lv_if_ne (tgt := 162) hx hb dX6_at_150 (by decide) (fun c_150 => ?_) (fun c_150 => ?_)
            · refine lv_iload_n hx hb dX6_at_162 rfl (lv_at hl 3 rfl) ?_
              refine lv_iconst (v := 1) hx hb dX6_at_163 (by decide) ?_
              refine lv_icmp_ne (tgt := 176) hx hb dX6_at_164 (by decide) (fun c_164 => ?_) (fun c_164 => ?_)
              · refine lv_iload_n hx hb dX6_at_176 rfl (lv_at hl 3 rfl) ?_
                refine lv_iconst (v := 2) hx hb dX6_at_177 (by decide) ?_
                refine lv_icmp_ne (tgt := 186) hx hb dX6_at_178 (by decide) (fun c_178 => ?_) (fun c_178 => ?_)
                · refine lv_iload_n hx hb dX6_at_186 rfl (lv_at hl 3 rfl) ?_
                  refine lv_iconst (v := 3) hx hb dX6_at_187 (by decide) ?_
                  refine lv_icmp_ne (tgt := 196) hx hb dX6_at_188 (by decide) (fun c_188 => ?_) (fun c_188 => ?_)
                  · refine lv_iload hx hb dX6_at_196 (lv_at hl 6 rfl) ?_
                    exact w_iret (S0 := mS) (w1 := mX b cA) (va_up u 0 0, n, m, va_up (va_up a 13 (SR a m n)) 16 (rSgn (rZero (a 16) n) g r (rLeft (a 7) (a 9) (a 11) p1 p2 n))) hx hb hr hlk hP hD hS ⟨(by rw [if_pos c_9, if_pos ⟨c_23, c_32⟩, atAns, if_neg c_150, if_neg c_164, if_neg c_178, if_neg c_188] <;> rfl), _, rfl, fun i hi => (by rw [va_up_ne _ _ (by omega), va_up_ne _ _ (by omega)])⟩ dX6_at_198
                  · refine lv_iload hx hb dX6_at_191 (lv_at hl 5 rfl) ?_
                    refine lv_goto (tgt := 198) hx hb dX6_at_193 (by decide) ?_
                    exact w_iret (S0 := mS) (w1 := mX b cA) (va_up u 0 0, n, m, va_up (va_up a 13 (SR a m n)) 16 (rSgn (rZero (a 16) n) g r (rLeft (a 7) (a 9) (a 11) p1 p2 n))) hx hb hr hlk hP hD hS ⟨(by rw [if_pos c_9, if_pos ⟨c_23, c_32⟩, atAns, if_neg c_150, if_neg c_164, if_neg c_178, if_pos c_188] <;> rfl), _, rfl, fun i hi => (by rw [va_up_ne _ _ (by omega), va_up_ne _ _ (by omega)])⟩ dX6_at_198
                · refine lv_iload hx hb dX6_at_181 (lv_at hl 4 rfl) ?_
                  refine lv_goto (tgt := 198) hx hb dX6_at_183 (by decide) ?_
                  exact w_iret (S0 := mS) (w1 := mX b cA) (va_up u 0 0, n, m, va_up (va_up a 13 (SR a m n)) 16 (rSgn (rZero (a 16) n) g r (rLeft (a 7) (a 9) (a 11) p1 p2 n))) hx hb hr hlk hP hD hS ⟨(by rw [if_pos c_9, if_pos ⟨c_23, c_32⟩, atAns, if_neg c_150, if_neg c_164, if_pos c_178] <;> rfl), _, rfl, fun i hi => (by rw [va_up_ne _ _ (by omega), va_up_ne _ _ (by omega)])⟩ dX6_at_198
              · refine lv_aload_n hx hb dX6_at_167 rfl (lv_at hl 0 rfl) ?_
                refine lv_iload_n hx hb dX6_at_168 rfl (lv_at hl 1 rfl) ?_
                refine lv_iload_n hx hb dX6_at_169 rfl (lv_at hl 2 rfl) ?_
                refine rcVi (As := [.int p1, .int p2]) (rest := []) ⟨hx, hb, hml, hown, hts⟩ (k6_low l D b cA (va_up u 0 0) n m (va_up (va_up a 13 (SR a m n)) 16 (rSgn (rZero (a 16) n) g r (rLeft (a 7) (a 9) (a 11) p1 p2 n))) p1 p2 (by omega)) (cwV 2 hts gX6_at_X6_low rfl rfl rfl (by decide +kernel) ⟨Nat.le_of_ble_eq_true rfl, Nat.le_of_ble_eq_true rfl⟩) (va_recv hK.1 hP (ci := 6) (q0 := 0) rfl rfl) hP hK rfl hl.1 rfl (Nat.le_of_ble_eq_true rfl) dX6_at_170 ⟨Nat.zero_le _, Nat.zero_le _⟩ ?_
                refine lv_goto (tgt := 198) hx hb dX6_at_173 (by decide) ?_
                exact w_iret (S0 := mS) (w1 := mX b cA) (va_up u 0 0, n, m, va_up (va_up a 13 (SR a m n)) 16 (rSgn (rZero (a 16) n) g r (rLeft (a 7) (a 9) (a 11) p1 p2 n))) hx hb hr hlk hP hD hS ⟨(by rw [if_pos c_9, if_pos ⟨c_23, c_32⟩, atAns, if_neg c_150, if_pos c_164] <;> rfl), _, rfl, fun i hi => (by rw [va_up_ne _ _ (by omega), va_up_ne _ _ (by omega)])⟩ dX6_at_198
            · refine lv_aload_n hx hb dX6_at_153 rfl (lv_at hl 0 rfl) ?_
              refine lv_iload_n hx hb dX6_at_154 rfl (lv_at hl 1 rfl) ?_
              refine lv_iload_n hx hb dX6_at_155 rfl (lv_at hl 2 rfl) ?_
              refine rcVi (As := [.int p1, .int p2]) (rest := []) ⟨hx, hb, hml, hown, hts⟩ (k6_high l D b cA (va_up u 0 0) n m (va_up (va_up a 13 (SR a m n)) 16 (rSgn (rZero (a 16) n) g r (rLeft (a 7) (a 9) (a 11) p1 p2 n))) p1 p2 (by omega)) (cwV 2 hts gX6_at_X6_high rfl rfl rfl (by decide +kernel) ⟨Nat.le_of_ble_eq_true rfl, Nat.le_of_ble_eq_true rfl⟩) (va_recv hK.1 hP (ci := 6) (q0 := 0) rfl rfl) hP hK rfl hl.1 rfl (Nat.le_of_ble_eq_true rfl) dX6_at_156 ⟨Nat.zero_le _, Nat.zero_le _⟩ ?_
              refine lv_goto (tgt := 198) hx hb dX6_at_159 (by decide) ?_
              exact w_iret (S0 := mS) (w1 := mX b cA) (va_up u 0 0, n, m, va_up (va_up a 13 (SR a m n)) 16 (rSgn (rZero (a 16) n) g r (rLeft (a 7) (a 9) (a 11) p1 p2 n))) hx hb hr hlk hP hD hS ⟨(by rw [if_pos c_9, if_pos ⟨c_23, c_32⟩, atAns, if_pos c_150] <;> rfl), _, rfl, fun i hi => (by rw [va_up_ne _ _ (by omega), va_up_ne _ _ (by omega)])⟩ dX6_at_198
          · refine lv_aload_n hx hb dX6_at_117 rfl (lv_at hl 0 rfl) ?_
            refine va_get (D := D) (ci := 6) (v := .ref (b 16)) (C := RX6) (T := TX6) (N := 23) hx hb hts hiX60 hown hK.1 hP 0 rfl rfl 22 (by decide) f2 (fun _ h9 => h9) rfl dX6_at_118 ?_
            refine lv_iload hx hb dX6_at_121 (lv_at hl 7 rfl) ?_
            refine x_iald hx hb hK hP 16 0 rfl rfl (k := k) (by omega) (by decide) dX6_at_123 ?_
            refine lv_iload hx hb dX6_at_124 (lv_at hl 6 rfl) ?_
            refine x_ile (tgt := 139) hx hb dX6_at_126 (by decide) (fun c_126 => ?_) (fun c_126 => ?_)
            · refine lv_iload hx hb dX6_at_139 (lv_at hl 6 rfl) ?_
              refine x_tp (y := rMost (rSgn (rZero (a 16) n) g r (rLeft (a 7) (a 9) (a 11) p1 p2 n)) (k + 1)) (mxI_f c_126).symm ?_
              refine lv_istore (lv' := [(6, .int (rMost (rSgn (rZero (a 16) n) g r (rLeft (a 7) (a 9) (a 11) p1 p2 n)) (k + 1))), (0, .ref (b 0)), (1, .int p1), (2, .int p2), (3, .int p3), (4, .int (nI (rAll (a 7) (a 8) (a 9) n p1 p2 3))), (5, .int (nI (rChs (a 7) (a 8) (a 9) n p1 p2 3))), (7, .int (nI k))]) hx hb dX6_at_141 hl (by decide) rfl (fun ls hl => ?_)
              refine lv_iinc (v := nI (k + 1)) (lv' := [(7, .int (nI (k + 1))), (6, .int (rMost (rSgn (rZero (a 16) n) g r (rLeft (a 7) (a 9) (a 11) p1 p2 n)) (k + 1))), (0, .ref (b 0)), (1, .int p1), (2, .int p2), (3, .int p3), (4, .int (nI (rAll (a 7) (a 8) (a 9) n p1 p2 3))), (5, .int (nI (rChs (a 7) (a 8) (a 9) n p1 p2 3)))]) hx hb dX6_at_143 hl (k := 7) rfl (x_inc k) (by decide) rfl (fun ls hl => ?_)
              refine lv_goto (tgt := 108) hx hb dX6_at_146 (by decide) ?_
              exact ihk (by omega) () _ trivial (lv_sub hl [2, 3, 4, 5, 6, 7, 1, 0] rfl)
            · refine lv_aload_n hx hb dX6_at_129 rfl (lv_at hl 0 rfl) ?_
              refine va_get (D := D) (ci := 6) (v := .ref (b 16)) (C := RX6) (T := TX6) (N := 23) hx hb hts hiX60 hown hK.1 hP 0 rfl rfl 22 (by decide) f2 (fun _ h9 => h9) rfl dX6_at_130 ?_
              refine lv_iload hx hb dX6_at_133 (lv_at hl 7 rfl) ?_
              refine x_iald hx hb hK hP 16 0 rfl rfl (k := k) (by omega) (by decide) dX6_at_135 ?_
              refine lv_goto (tgt := 141) hx hb dX6_at_136 (by decide) ?_
              refine x_tp (y := rMost (rSgn (rZero (a 16) n) g r (rLeft (a 7) (a 9) (a 11) p1 p2 n)) (k + 1)) (mxI_t c_126).symm ?_
              refine lv_istore (lv' := [(6, .int (rMost (rSgn (rZero (a 16) n) g r (rLeft (a 7) (a 9) (a 11) p1 p2 n)) (k + 1))), (0, .ref (b 0)), (1, .int p1), (2, .int p2), (3, .int p3), (4, .int (nI (rAll (a 7) (a 8) (a 9) n p1 p2 3))), (5, .int (nI (rChs (a 7) (a 8) (a 9) n p1 p2 3))), (7, .int (nI k))]) hx hb dX6_at_141 hl (by decide) rfl (fun ls hl => ?_)
              refine lv_iinc (v := nI (k + 1)) (lv' := [(7, .int (nI (k + 1))), (6, .int (rMost (rSgn (rZero (a 16) n) g r (rLeft (a 7) (a 9) (a 11) p1 p2 n)) (k + 1))), (0, .ref (b 0)), (1, .int p1), (2, .int p2), (3, .int p3), (4, .int (nI (rAll (a 7) (a 8) (a 9) n p1 p2 3))), (5, .int (nI (rChs (a 7) (a 8) (a 9) n p1 p2 3)))]) hx hb dX6_at_143 hl (k := 7) rfl (x_inc k) (by decide) rfl (fun ls hl => ?_)
              refine lv_goto (tgt := 108) hx hb dX6_at_146 (by decide) ?_
              exact ihk (by omega) () _ trivial (lv_sub hl [2, 3, 4, 5, 6, 7, 1, 0] rfl)
        · refine lv_aload_n hx hb dX6_at_54 rfl (lv_at hl 0 rfl) ?_
          refine lv_iload_n hx hb dX6_at_55 rfl (lv_at hl 1 rfl) ?_
          refine lv_iload_n hx hb dX6_at_56 rfl (lv_at hl 2 rfl) ?_
          refine lv_iload hx hb dX6_at_57 (lv_at hl 6 rfl) ?_
          refine rcVi (As := [.int p1, .int p2, .int (nI v)]) (rest := []) ⟨hx, hb, hml, hown, hts⟩ (k6_many l D b cA (va_up u 0 0) n m a p1 p2 (nI v) (by omega)) (cwV 3 hts gX6_at_X6_many rfl rfl rfl (by decide +kernel) ⟨Nat.le_of_ble_eq_true rfl, Nat.le_of_ble_eq_true rfl⟩) (va_recv hK.1 hP (ci := 6) (q0 := 0) rfl rfl) hP hK rfl hl.1 rfl (Nat.le_of_ble_eq_true rfl) dX6_at_59 ⟨Nat.zero_le _, Nat.zero_le _⟩ ?_
          refine lv_istore (lv' := [(7, .int (nI (rMany (a 7) (a 8) (a 9) p1 p2 (nI v) n))), (0, .ref (b 0)), (1, .int p1), (2, .int p2), (3, .int p3), (4, .int (nI (rAll (a 7) (a 8) (a 9) n p1 p2 v))), (5, .int (nI (rChs (a 7) (a 8) (a 9) n p1 p2 v))), (6, .int (nI v))]) hx hb dX6_at_62 hl (by decide) rfl (fun ls hl => ?_)
          have hMn := rMany_le (a 7) (a 8) (a 9) p1 p2 (nI v) n
          refine lv_iload hx hb dX6_at_64 (lv_at hl 5 rfl) ?_
          refine lv_iload hx hb dX6_at_66 (lv_at hl 0 rfl) ?_
          refine lv_iadd hx hb dX6_at_68 ?_
          refine x_tp (y := nI (rAll (a 7) (a 8) (a 9) n p1 p2 (v + 1))) (nI_add _ _) ?_
          refine lv_istore (lv' := [(4, .int (nI (rAll (a 7) (a 8) (a 9) n p1 p2 (v + 1)))), (7, .int (nI (rMany (a 7) (a 8) (a 9) p1 p2 (nI v) n))), (0, .ref (b 0)), (1, .int p1), (2, .int p2), (3, .int p3), (5, .int (nI (rChs (a 7) (a 8) (a 9) n p1 p2 v))), (6, .int (nI v))]) hx hb dX6_at_69 hl (by decide) rfl (fun ls hl => ?_)
          refine lv_iload hx hb dX6_at_71 (lv_at hl 6 rfl) ?_
          refine lv_iload hx hb dX6_at_73 (lv_at hl 1 rfl) ?_
          refine x_cle (tgt := 82) hx hb dX6_at_75 (by decide) (fun c_75 => ?_) (fun c_75 => ?_)
          · refine lv_iconst (v := 0) hx hb dX6_at_82 (by decide) ?_
            refine lv_iadd hx hb dX6_at_83 ?_
            refine x_tp (y := nI (rChs (a 7) (a 8) (a 9) n p1 p2 (v + 1))) (by rw [rChs, if_neg (fun h => c_75 ((nI_pos0 (by omega)).mpr h))]; exact Int32.add_zero _) ?_
            refine lv_istore (lv' := [(5, .int (nI (rChs (a 7) (a 8) (a 9) n p1 p2 (v + 1)))), (4, .int (nI (rAll (a 7) (a 8) (a 9) n p1 p2 (v + 1)))), (7, .int (nI (rMany (a 7) (a 8) (a 9) p1 p2 (nI v) n))), (0, .ref (b 0)), (1, .int p1), (2, .int p2), (3, .int p3), (6, .int (nI v))]) hx hb dX6_at_84 hl (by decide) rfl (fun ls hl => ?_)
            refine lv_iinc (v := nI (v + 1)) (lv' := [(6, .int (nI (v + 1))), (5, .int (nI (rChs (a 7) (a 8) (a 9) n p1 p2 (v + 1)))), (4, .int (nI (rAll (a 7) (a 8) (a 9) n p1 p2 (v + 1)))), (7, .int (nI (rMany (a 7) (a 8) (a 9) p1 p2 (nI v) n))), (0, .ref (b 0)), (1, .int p1), (2, .int p2), (3, .int p3)]) hx hb dX6_at_86 hl (k := 7) rfl (x_inc v) (by decide) rfl (fun ls hl => ?_)
            refine lv_goto (tgt := 48) hx hb dX6_at_89 (by decide) ?_
            exact ihv (by omega) () _ trivial (lv_sub hl [4, 5, 6, 7, 2, 1, 0] rfl)
          · refine lv_iconst (v := 1) hx hb dX6_at_78 (by decide) ?_
            refine lv_goto (tgt := 83) hx hb dX6_at_79 (by decide) ?_
            refine lv_iadd hx hb dX6_at_83 ?_
            refine x_tp (y := nI (rChs (a 7) (a 8) (a 9) n p1 p2 (v + 1))) (by rw [rChs, if_pos ((nI_pos0 (by omega)).mp c_75)]; exact nI_1 _) ?_
            refine lv_istore (lv' := [(5, .int (nI (rChs (a 7) (a 8) (a 9) n p1 p2 (v + 1)))), (4, .int (nI (rAll (a 7) (a 8) (a 9) n p1 p2 (v + 1)))), (7, .int (nI (rMany (a 7) (a 8) (a 9) p1 p2 (nI v) n))), (0, .ref (b 0)), (1, .int p1), (2, .int p2), (3, .int p3), (6, .int (nI v))]) hx hb dX6_at_84 hl (by decide) rfl (fun ls hl => ?_)
            refine lv_iinc (v := nI (v + 1)) (lv' := [(6, .int (nI (v + 1))), (5, .int (nI (rChs (a 7) (a 8) (a 9) n p1 p2 (v + 1)))), (4, .int (nI (rAll (a 7) (a 8) (a 9) n p1 p2 (v + 1)))), (7, .int (nI (rMany (a 7) (a 8) (a 9) p1 p2 (nI v) n))), (0, .ref (b 0)), (1, .int p1), (2, .int p2), (3, .int p3)]) hx hb dX6_at_86 hl (k := 7) rfl (x_inc v) (by decide) rfl (fun ls hl => ?_)
            refine lv_goto (tgt := 48) hx hb dX6_at_89 (by decide) ?_
            exact ihv (by omega) () _ trivial (lv_sub hl [4, 5, 6, 7, 2, 1, 0] rfl)
      · refine lv_sipush (v := (-1002)) hx hb dX6_at_35 (by decide) ?_
        exact w_iret (S0 := mS) (w1 := mX b cA) (va_up u 0 0, n, m, a) hx hb hr hlk hP hD hS ⟨(by rw [if_pos c_9, if_neg (fun h => c_32 h.2)]), _, rfl, fun i hi => rfl⟩ dX6_at_38
  · refine lv_sipush (v := (-1001)) hx hb dX6_at_12 (by decide) ?_
    exact w_iret (S0 := mS) (w1 := mX b cA) (va_up u 0 0, n, m, a) hx hb hr hlk hP hD hS ⟨(by rw [if_neg c_9]), _, rfl, fun i hi => rfl⟩ dX6_at_15

set_option maxHeartbeats 4000000 in
set_option maxRecDepth 100000 in
theorem k6_crowded (l : Launch) (D : va_G) (b : Nat → Nat) (cA : ClassId) (u : Nat → Int32) (n m : Nat) (a : Nat → Nat → Int32) (sz : Nat) (p1 : Int32) (as : Nat → Nat → Int32) (d : Nat → Nat → Nat) (hn : n ≤ 60) (hm : m ≤ 12) (hs4 : ∀ k, k < n → a 7 k = nI ((a 7 k).toNatClampNeg) ∧ (a 7 k).toNatClampNeg < 4) (hall : ∀ t, t < 100 → rAsides (a 7) (a 8) (a 9) (SR a m n) n p1 (nI t) (as t) ∧ ∀ co, rMoves (a 7) (a 8) (a 9) (SR a m n) (a 12) (a 11) n p1 (nI t) co (as t) (d t)) : Met l yX6_crowded wsX6_crowded ({ frames := 8, cells := 0, slots := 0, locals := 195 }) (wPc D (mW b cA u n m a) [(cA, .int)] sz [.ref (b 0), .int p1]) (va_Qi (fun (r9 : Int32) (x : mS) => r9 = (if okI p1 0 3 then (if rTks (a 7) (a 8) (a 9) n p1 100 = 0 then 0 else 1000 * nI (rCrd (a 7) (a 8) (a 9) n p1 d 100) / nI (rTks (a 7) (a 8) (a 9) n p1 100)) else -1001) ∧ mQ u n m a (if okI p1 0 3 ∧ rTks (a 7) (a 8) (a 9) n p1 100 = 0 then 1 else 0) x) (wB D (mW b cA u n m a) sz (mX b cA)) (va_A (mW b cA u n m a) sz)) 0 0 (va_A (mW b cA u n m a) sz) := by
  refine w_head (C := RX6) (cc := cX6_crowded) (maxL := 6) (ret := (some .int)) [(0, .ref (b 0)), (1, .int p1)] (by decide) rfl rfl (Nat.le_of_ble_eq_true rfl) rfl ?_
  intro p e s mi below meth c hx hb hr hlk hml hown hin hts hP hD hS hA hK ls hl
  have hiX60 : ∀ w ∈ wsX60, w ∈ wsX6_crowded := fun w h => List.mem_cons_of_mem _ (List.mem_append_right _ h)
  have f0 := hts (.fieldLink RX6 69 "StaffHeadsModel" "thrown" "I") (List.mem_of_getElem? (i := 1) rfl)
  have f1 := hts (.fieldLink RX6 56 "StaffHeadsModel" "movedBy" "[I") (List.mem_of_getElem? (i := 2) rfl)
  refine lv_aload_n hx hb dX6_crowded_0 rfl (lv_at hl 0 rfl) ?_
  refine lv_iconst (v := 0) hx hb dX6_crowded_1 (by decide) ?_
  refine va_put (D := D) (ci := 6) (v := .int 0) (ty := .int) (C := RX6) (T := TX6) (N := 23) hx hb hts hiX60 tyX6 tyX6_ok nmX6 hown hK.1 hP hD hS 0 rfl rfl 0 (by decide) f0 (fun _ h9 => h9) rfl (by decide +kernel) rfl rfl (Nat.le_of_ble_eq_true rfl) dX6_crowded_2 (fun H locs hP hD hS => ?_)
  have hP : va_P D vwCl (mW b cA (va_up u 0 0) n m a) H := hP
  have hD : va_D (va_A (mW b cA u n m a) sz) (mW b cA (va_up u 0 0) n m a) := hD
  refine lv_iload_n hx hb dX6_crowded_5 rfl (lv_at hl 1 rfl) ?_
  refine rcSi (As := [.int p1]) (rest := []) ⟨hx, hb, hml, hown, hts⟩ (k6_isStaff l p1) (va_cwS 1 hts gX6_crowded_X6_isStaff rfl rfl rfl (by decide +kernel) ⟨Nat.le_of_ble_eq_true rfl, Nat.le_of_ble_eq_true rfl⟩) rfl hl.1 rfl (Nat.le_of_ble_eq_true rfl) dX6_crowded_6 ⟨Nat.zero_le _, Nat.zero_le _⟩ ?_
  refine x_ifne (tgt := 16) hx hb dX6_crowded_9 (by decide) (fun (c_9 : ¬ p1 < 0 ∧ ¬ 3 < p1) => ?_) (fun (c_9 : ¬ (¬ p1 < 0 ∧ ¬ 3 < p1)) => ?_)
  · refine lv_iconst (v := 0) hx hb dX6_crowded_16 (by decide) ?_
    refine x_tp (y := nI (rTks (a 7) (a 8) (a 9) n p1 0)) (show (0 : Int32) = nI 0 from rfl) ?_
    refine lv_istore_n (lv' := [(2, .int (nI (rTks (a 7) (a 8) (a 9) n p1 0))), (0, .ref (b 0)), (1, .int p1)]) hx hb dX6_crowded_17 rfl hl (by decide) rfl (fun ls hl => ?_)
    refine lv_iconst (v := 0) hx hb dX6_crowded_18 (by decide) ?_
    refine x_tp (y := nI (rCrd (a 7) (a 8) (a 9) n p1 d 0)) (show (0 : Int32) = nI 0 from rfl) ?_
    refine lv_istore_n (lv' := [(3, .int (nI (rCrd (a 7) (a 8) (a 9) n p1 d 0))), (2, .int (nI (rTks (a 7) (a 8) (a 9) n p1 0))), (0, .ref (b 0)), (1, .int p1)]) hx hb dX6_crowded_19 rfl hl (by decide) rfl (fun ls hl => ?_)
    refine lv_aload_n hx hb dX6_crowded_20 rfl (lv_at hl 2 rfl) ?_
    refine wcVv (S0 := Unit) (wr := []) (As := []) (rest := []) ⟨hx, hb, hml, hown, hts⟩ (k6_reckon l D b cA (va_up u 0 0) n m a H.size (by omega) (by omega) hs4) (cwV 0 hts gX6_crowded_X6_reckon rfl rfl rfl (by decide +kernel) ⟨Nat.le_of_ble_eq_true rfl, Nat.le_of_ble_eq_true rfl⟩) (va_recv hK.1 hP (ci := 6) (q0 := 0) rfl rfl) hP hD hS hA hK [0, 1, 2, 3, 4, 5, 6, 7, 8, 9, 10, 11, 12, 13, 14, 15, 16] [] rfl rfl (by decide) (by decide) (by decide) rfl hl.1 rfl (Nat.le_of_ble_eq_true rfl) dX6_crowded_21 ⟨Nat.zero_le _, Nat.zero_le _⟩ (fun _ H locs _ hP hD hS => ?_)
    have hP : va_P D vwCl (mW b cA (va_up u 0 0) n m (va_up a 13 (SR a m n))) H := hP
    have hD : va_D (va_A (mW b cA u n m a) sz) (mW b cA (va_up u 0 0) n m (va_up a 13 (SR a m n))) := hD
    refine lv_iconst (v := 0) hx hb dX6_crowded_24 (by decide) ?_
    refine x_tp (y := nI 0) nI_0.symm ?_
    refine lv_istore (lv' := [(4, .int (nI 0)), (3, .int (nI (rCrd (a 7) (a 8) (a 9) n p1 d 0))), (2, .int (nI (rTks (a 7) (a 8) (a 9) n p1 0))), (0, .ref (b 0)), (1, .int p1)]) hx hb dX6_crowded_25 hl (by decide) rfl (fun ls hl => ?_)
    refine lpW (G := fun ls H locs => W p l e _ s mi _ below meth c H locs _ _ _ (F0 mi 27 ls [])) 6 100 (fun t (g : (Nat → Int32) × (Nat → Int32)) => [(0, .ref (b 0)), (1, .int p1), (2, .int (nI (rTks (a 7) (a 8) (a 9) n p1 t))), (3, .int (nI (rCrd (a 7) (a 8) (a 9) n p1 d t))), (4, .int (nI t))]) (fun t (g : (Nat → Int32) × (Nat → Int32)) => mW b cA (va_up u 0 0) n m (va_up (va_up (va_up a 13 (SR a m n)) 14 g.1) 15 g.2)) (fun _ _ => True) ?_ 0 (a 14, a 15) (Nat.zero_le _) trivial (lv_sub hl [3, 4, 2, 1, 0] rfl) hP hD hS
    clear hl hP hD hS
    intro t g ht htI ls H locs hl hP hD hS iht
    refine lv_iload hx hb dX6_crowded_27 (lv_at hl 4 rfl) ?_
    refine lv_bipush (v := 100) hx hb dX6_crowded_29 (by decide) ?_
    refine x_tp (y := nI 100) (show (100 : Int32) = nI 100 from rfl) ?_
    refine x_nge (tgt := 114) hx hb dX6_crowded_31 (by decide) (by omega) (by omega) (fun c_31 => ?_) (fun c_31 => ?_)
    · obtain rfl : 100 = t := by omega
      have hTk := rTks_le (a 7) (a 8) (a 9) n p1 100
      refine lv_aload_n hx hb dX6_crowded_114 rfl (lv_at hl 0 rfl) ?_
      refine lv_iload_n hx hb dX6_crowded_115 rfl (lv_at hl 2 rfl) ?_
      refine lv_if_ne (tgt := 123) hx hb dX6_crowded_116 (by decide) (fun c_116 => ?_) (fun c_116 => ?_)
      · have c_116 : ¬ rTks (a 7) (a 8) (a 9) n p1 100 = 0 := fun q => c_116 (by rw [q]; rfl)
        refine lv_iconst (v := 0) hx hb dX6_crowded_123 (by decide) ?_
        refine va_put (D := D) (ci := 6) (v := .int 0) (ty := .int) (C := RX6) (T := TX6) (N := 23) hx hb hts hiX60 tyX6 tyX6_ok nmX6 hown hK.1 hP hD hS 0 rfl rfl 0 (by decide) f0 (fun _ h9 => h9) rfl (by decide +kernel) rfl rfl (Nat.le_of_ble_eq_true rfl) dX6_crowded_124 (fun H locs hP hD hS => ?_)
        have hP : va_P D vwCl (mW b cA (va_up (va_up u 0 0) 0 0) n m (va_up (va_up (va_up a 13 (SR a m n)) 14 g.1) 15 g.2)) H := hP
        have hD : va_D (va_A (mW b cA u n m a) sz) (mW b cA (va_up (va_up u 0 0) 0 0) n m (va_up (va_up (va_up a 13 (SR a m n)) 14 g.1) 15 g.2)) := hD
        refine lv_aload_n hx hb dX6_crowded_127 rfl (lv_at hl 0 rfl) ?_
        refine va_get (D := D) (ci := 6) (v := .int 0) (C := RX6) (T := TX6) (N := 23) hx hb hts hiX60 hown hK.1 hP 0 rfl rfl 0 (by decide) f0 (fun _ h9 => h9) rfl dX6_crowded_128 ?_
        refine x_cle (tgt := 138) hx hb dX6_crowded_131 (by decide) (fun c_131 => ?_) (fun c_131 => ?_)
        · refine lv_sipush (v := 1000) hx hb dX6_crowded_138 (by decide) ?_
          refine lv_iload_n hx hb dX6_crowded_141 rfl (lv_at hl 3 rfl) ?_
          refine lv_imul hx hb dX6_crowded_142 ?_
          refine lv_iload_n hx hb dX6_crowded_143 rfl (lv_at hl 2 rfl) ?_
          refine lv_idiv hx hb dX6_crowded_144 (nI_ne0 (Nat.pos_of_ne_zero c_116) (by omega)) ?_
          exact w_iret (S0 := mS) (w1 := mX b cA) (va_up (va_up u 0 0) 0 0, n, m, va_up (va_up (va_up a 13 (SR a m n)) 14 g.1) 15 g.2) hx hb hr hlk hP hD hS ⟨(by rw [if_pos c_9, if_neg c_116]), _, (by rw [if_neg (fun h => c_116 h.2), bx_uu]), fun i hi => (by rw [va_up_ne _ _ (by omega), va_up_ne _ _ (by omega), va_up_ne _ _ (by omega)])⟩ dX6_crowded_145
        · exact absurd c_131 (by decide)
      · have c_116 : rTks (a 7) (a 8) (a 9) n p1 100 = 0 := (nI_eq (b := 0) (by omega) (by decide)).mp c_116
        refine lv_iconst (v := 1) hx hb dX6_crowded_119 (by decide) ?_
        refine lv_goto (tgt := 124) hx hb dX6_crowded_120 (by decide) ?_
        refine va_put (D := D) (ci := 6) (v := .int 1) (ty := .int) (C := RX6) (T := TX6) (N := 23) hx hb hts hiX60 tyX6 tyX6_ok nmX6 hown hK.1 hP hD hS 0 rfl rfl 0 (by decide) f0 (fun _ h9 => h9) rfl (by decide +kernel) rfl rfl (Nat.le_of_ble_eq_true rfl) dX6_crowded_124 (fun H locs hP hD hS => ?_)
        have hP : va_P D vwCl (mW b cA (va_up (va_up u 0 0) 0 1) n m (va_up (va_up (va_up a 13 (SR a m n)) 14 g.1) 15 g.2)) H := hP
        have hD : va_D (va_A (mW b cA u n m a) sz) (mW b cA (va_up (va_up u 0 0) 0 1) n m (va_up (va_up (va_up a 13 (SR a m n)) 14 g.1) 15 g.2)) := hD
        refine lv_aload_n hx hb dX6_crowded_127 rfl (lv_at hl 0 rfl) ?_
        refine va_get (D := D) (ci := 6) (v := .int 1) (C := RX6) (T := TX6) (N := 23) hx hb hts hiX60 hown hK.1 hP 0 rfl rfl 0 (by decide) f0 (fun _ h9 => h9) rfl dX6_crowded_128 ?_
        refine x_cle (tgt := 138) hx hb dX6_crowded_131 (by decide) (fun c_131 => ?_) (fun c_131 => ?_)
        · exact absurd (by decide) c_131
        · refine lv_iconst (v := 0) hx hb dX6_crowded_134 (by decide) ?_
          refine lv_goto (tgt := 145) hx hb dX6_crowded_135 (by decide) ?_
          exact w_iret (S0 := mS) (w1 := mX b cA) (va_up (va_up u 0 0) 0 1, n, m, va_up (va_up (va_up a 13 (SR a m n)) 14 g.1) 15 g.2) hx hb hr hlk hP hD hS ⟨(by rw [if_pos c_9, if_pos c_116]), _, (by rw [if_pos ⟨c_9, c_116⟩, bx_uu]), fun i hi => (by rw [va_up_ne _ _ (by omega), va_up_ne _ _ (by omega), va_up_ne _ _ (by omega)])⟩ dX6_crowded_145
    · refine lv_aload_n hx hb dX6_crowded_34 rfl (lv_at hl 0 rfl) ?_
      refine lv_iload_n hx hb dX6_crowded_35 rfl (lv_at hl 1 rfl) ?_
      refine lv_iload hx hb dX6_crowded_36 (lv_at hl 4 rfl) ?_
      refine lv_iconst (v := 0) hx hb dX6_crowded_38 (by decide) ?_
      refine rcVi (As := [.int p1, .int (nI t), .int 0]) (rest := []) ⟨hx, hb, hml, hown, hts⟩ (k6_many l D b cA (va_up u 0 0) n m (va_up (va_up (va_up a 13 (SR a m n)) 14 g.1) 15 g.2) p1 (nI t) 0 (by omega)) (cwV 3 hts gX6_crowded_X6_many rfl rfl rfl (by decide +kernel) ⟨Nat.le_of_ble_eq_true rfl, Nat.le_of_ble_eq_true rfl⟩) (va_recv hK.1 hP (ci := 6) (q0 := 0) rfl rfl) hP hK rfl hl.1 rfl (Nat.le_of_ble_eq_true rfl) dX6_crowded_39 ⟨Nat.zero_le _, Nat.zero_le _⟩ ?_
      refine lv_aload_n hx hb dX6_crowded_42 rfl (lv_at hl 0 rfl) ?_
      refine lv_iload_n hx hb dX6_crowded_43 rfl (lv_at hl 1 rfl) ?_
      refine lv_iload hx hb dX6_crowded_44 (lv_at hl 4 rfl) ?_
      refine lv_iconst (v := 1) hx hb dX6_crowded_46 (by decide) ?_
      refine rcVi (As := [.int p1, .int (nI t), .int 1]) (rest := [.int (nI (rMany (a 7) (a 8) (a 9) p1 (nI t) 0 n))]) ⟨hx, hb, hml, hown, hts⟩ (k6_many l D b cA (va_up u 0 0) n m (va_up (va_up (va_up a 13 (SR a m n)) 14 g.1) 15 g.2) p1 (nI t) 1 (by omega)) (cwV 3 hts gX6_crowded_X6_many rfl rfl rfl (by decide +kernel) ⟨Nat.le_of_ble_eq_true rfl, Nat.le_of_ble_eq_true rfl⟩) (va_recv hK.1 hP (ci := 6) (q0 := 0) rfl rfl) hP hK rfl hl.1 rfl (Nat.le_of_ble_eq_true rfl) dX6_crowded_47 ⟨Nat.zero_le _, Nat.zero_le _⟩ ?_
      refine lv_iadd hx hb dX6_crowded_50 ?_
      refine x_tp (y := nI (rMany (a 7) (a 8) (a 9) p1 (nI t) 0 n + rMany (a 7) (a 8) (a 9) p1 (nI t) 1 n)) (nI_add _ _) ?_
      refine lv_aload_n hx hb dX6_crowded_51 rfl (lv_at hl 0 rfl) ?_
      refine lv_iload_n hx hb dX6_crowded_52 rfl (lv_at hl 1 rfl) ?_
      refine lv_iload hx hb dX6_crowded_53 (lv_at hl 4 rfl) ?_
      refine lv_iconst (v := 2) hx hb dX6_crowded_55 (by decide) ?_
      refine rcVi (As := [.int p1, .int (nI t), .int 2]) (rest := [.int (nI (rMany (a 7) (a 8) (a 9) p1 (nI t) 0 n + rMany (a 7) (a 8) (a 9) p1 (nI t) 1 n))]) ⟨hx, hb, hml, hown, hts⟩ (k6_many l D b cA (va_up u 0 0) n m (va_up (va_up (va_up a 13 (SR a m n)) 14 g.1) 15 g.2) p1 (nI t) 2 (by omega)) (cwV 3 hts gX6_crowded_X6_many rfl rfl rfl (by decide +kernel) ⟨Nat.le_of_ble_eq_true rfl, Nat.le_of_ble_eq_true rfl⟩) (va_recv hK.1 hP (ci := 6) (q0 := 0) rfl rfl) hP hK rfl hl.1 rfl (Nat.le_of_ble_eq_true rfl) dX6_crowded_56 ⟨Nat.zero_le _, Nat.zero_le _⟩ ?_
      refine lv_iadd hx hb dX6_crowded_59 ?_
      refine x_tp (y := nI (rMany (a 7) (a 8) (a 9) p1 (nI t) 0 n + rMany (a 7) (a 8) (a 9) p1 (nI t) 1 n + rMany (a 7) (a 8) (a 9) p1 (nI t) 2 n)) (nI_add _ _) ?_
      have hMn0 := rMany_le (a 7) (a 8) (a 9) p1 (nI t) 0 n
      have hMn1 := rMany_le (a 7) (a 8) (a 9) p1 (nI t) 1 n
      have hMn2 := rMany_le (a 7) (a 8) (a 9) p1 (nI t) 2 n
      refine lv_istore (lv' := [(5, .int (nI (rMany (a 7) (a 8) (a 9) p1 (nI t) 0 n + rMany (a 7) (a 8) (a 9) p1 (nI t) 1 n + rMany (a 7) (a 8) (a 9) p1 (nI t) 2 n))), (0, .ref (b 0)), (1, .int p1), (2, .int (nI (rTks (a 7) (a 8) (a 9) n p1 t))), (3, .int (nI (rCrd (a 7) (a 8) (a 9) n p1 d t))), (4, .int (nI t))]) hx hb dX6_crowded_60 hl (by decide) rfl (fun ls hl => ?_)
      refine lv_iload hx hb dX6_crowded_62 (lv_at hl 0 rfl) ?_
      refine x_cle (tgt := 108) hx hb dX6_crowded_64 (by decide) (fun c_64 => ?_) (fun c_64 => ?_)
      · have c_64 : ¬ 0 < rMany (a 7) (a 8) (a 9) p1 (nI t) 0 n + rMany (a 7) (a 8) (a 9) p1 (nI t) 1 n + rMany (a 7) (a 8) (a 9) p1 (nI t) 2 n := fun h => c_64 ((nI_pos0 (by omega)).mpr h)
        have hl := lv_cast (l' := [(5, .int (nI (rMany (a 7) (a 8) (a 9) p1 (nI t) 0 n + rMany (a 7) (a 8) (a 9) p1 (nI t) 1 n + rMany (a 7) (a 8) (a 9) p1 (nI t) 2 n))), (0, .ref (b 0)), (1, .int p1), (2, .int (nI (rTks (a 7) (a 8) (a 9) n p1 (t + 1)))), (3, .int (nI (rCrd (a 7) (a 8) (a 9) n p1 d t))), (4, .int (nI t))]) hl (by rw [show nI (rTks (a 7) (a 8) (a 9) n p1 t) = nI (rTks (a 7) (a 8) (a 9) n p1 (t + 1)) from (by rw [rTks, if_neg c_64]; rfl)])
        have hl := lv_cast (l' := [(5, .int (nI (rMany (a 7) (a 8) (a 9) p1 (nI t) 0 n + rMany (a 7) (a 8) (a 9) p1 (nI t) 1 n + rMany (a 7) (a 8) (a 9) p1 (nI t) 2 n))), (0, .ref (b 0)), (1, .int p1), (2, .int (nI (rTks (a 7) (a 8) (a 9) n p1 (t + 1)))), (3, .int (nI (rCrd (a 7) (a 8) (a 9) n p1 d (t + 1)))), (4, .int (nI t))]) hl (by rw [show nI (rCrd (a 7) (a 8) (a 9) n p1 d t) = nI (rCrd (a 7) (a 8) (a 9) n p1 d (t + 1)) from (by rw [rCrd, if_neg (fun h => c_64 h.1)]; rfl)])
        refine lv_iinc (v := nI (t + 1)) (lv' := [(4, .int (nI (t + 1))), (5, .int (nI (rMany (a 7) (a 8) (a 9) p1 (nI t) 0 n + rMany (a 7) (a 8) (a 9) p1 (nI t) 1 n + rMany (a 7) (a 8) (a 9) p1 (nI t) 2 n))), (0, .ref (b 0)), (1, .int p1), (2, .int (nI (rTks (a 7) (a 8) (a 9) n p1 (t + 1)))), (3, .int (nI (rCrd (a 7) (a 8) (a 9) n p1 d (t + 1))))]) hx hb dX6_crowded_108 hl (k := 5) rfl (x_inc t) (by decide) rfl (fun ls hl => ?_)
        refine lv_goto (tgt := 27) hx hb dX6_crowded_111 (by decide) ?_
        exact iht (by omega) (g.1, g.2) _ _ _ trivial (lv_sub hl [2, 3, 4, 5, 0] rfl) hP hD hS
      · have c_64 : 0 < rMany (a 7) (a 8) (a 9) p1 (nI t) 0 n + rMany (a 7) (a 8) (a 9) p1 (nI t) 1 n + rMany (a 7) (a 8) (a 9) p1 (nI t) 2 n := (nI_pos0 (by omega)).mp c_64
        obtain ⟨has, hmv⟩ := hall t c_31
        refine lv_aload_n hx hb dX6_crowded_67 rfl (lv_at hl 1 rfl) ?_
        refine lv_iload_n hx hb dX6_crowded_68 rfl (lv_at hl 2 rfl) ?_
        refine lv_iload hx hb dX6_crowded_69 (lv_at hl 5 rfl) ?_
        refine wcVv (S0 := Unit) (wr := []) (As := [.int p1, .int (nI t)]) (rest := []) ⟨hx, hb, hml, hown, hts⟩ (k6_move l D b cA (va_up u 0 0) n m (va_up (va_up (va_up a 13 (SR a m n)) 14 g.1) 15 g.2) H.size p1 (nI t) (as t) (d t) (by omega) has (hmv _)) (cwV 2 hts gX6_crowded_X6_move rfl rfl rfl (by decide +kernel) ⟨Nat.le_of_ble_eq_true rfl, Nat.le_of_ble_eq_true rfl⟩) (va_recv hK.1 hP (ci := 6) (q0 := 0) rfl rfl) hP hD hS hA hK [0, 1, 2, 3, 4, 5, 6, 7, 8, 9, 10, 11, 12, 13, 14, 15, 16] [] rfl rfl (by decide) (by decide) (by decide) rfl hl.1 rfl (Nat.le_of_ble_eq_true rfl) dX6_crowded_71 ⟨Nat.zero_le _, Nat.zero_le _⟩ (fun _ H locs _ hP hD hS => ?_)
        have hP : va_P D vwCl (mW b cA (va_up u 0 0) n m (va_up (va_up (va_up (va_up (va_up a 13 (SR a m n)) 14 g.1) 15 g.2) 14 (rMvB g.1 (d t) 3)) 15 (rCol (a 7) (a 8) (a 9) p1 (nI t) n g.2 (as t) (d t) 3))) H := hP
        have hD : va_D (va_A (mW b cA u n m a) sz) (mW b cA (va_up u 0 0) n m (va_up (va_up (va_up (va_up (va_up a 13 (SR a m n)) 14 g.1) 15 g.2) 14 (rMvB g.1 (d t) 3)) 15 (rCol (a 7) (a 8) (a 9) p1 (nI t) n g.2 (as t) (d t) 3))) := hD
        refine lv_iinc (v := nI (rTks (a 7) (a 8) (a 9) n p1 t + 1)) (lv' := [(2, .int (nI (rTks (a 7) (a 8) (a 9) n p1 t + 1))), (5, .int (nI (rMany (a 7) (a 8) (a 9) p1 (nI t) 0 n + rMany (a 7) (a 8) (a 9) p1 (nI t) 1 n + rMany (a 7) (a 8) (a 9) p1 (nI t) 2 n))), (0, .ref (b 0)), (1, .int p1), (3, .int (nI (rCrd (a 7) (a 8) (a 9) n p1 d t))), (4, .int (nI t))]) hx hb dX6_crowded_74 hl (k := 3) rfl (x_inc (rTks (a 7) (a 8) (a 9) n p1 t)) (by decide) rfl (fun ls hl => ?_)
        have hl := lv_cast (l' := [(2, .int (nI (rTks (a 7) (a 8) (a 9) n p1 (t + 1)))), (5, .int (nI (rMany (a 7) (a 8) (a 9) p1 (nI t) 0 n + rMany (a 7) (a 8) (a 9) p1 (nI t) 1 n + rMany (a 7) (a 8) (a 9) p1 (nI t) 2 n))), (0, .ref (b 0)), (1, .int p1), (3, .int (nI (rCrd (a 7) (a 8) (a 9) n p1 d t))), (4, .int (nI t))]) hl (by rw [show nI (rTks (a 7) (a 8) (a 9) n p1 t + 1) = nI (rTks (a 7) (a 8) (a 9) n p1 (t + 1)) from (by rw [rTks, if_pos c_64])])
        refine x_joinW (D := D) (A := (va_A (mW b cA u n m a) sz)) (H0 := s.heap) 6 [(0, .ref (b 0)), (1, .int p1), (2, .int (nI (rTks (a 7) (a 8) (a 9) n p1 (t + 1)))), (3, .int (nI (rCrd (a 7) (a 8) (a 9) n p1 d t))), (4, .int (nI t))] (mW b cA (va_up u 0 0) n m (va_up (va_up (va_up (va_up (va_up a 13 (SR a m n)) 14 g.1) 15 g.2) 14 (rMvB g.1 (d t) 3)) 15 (rCol (a 7) (a 8) (a 9) p1 (nI t) n g.2 (as t) (d t) 3))) 107 [.int (nI (rCrd (a 7) (a 8) (a 9) n p1 d (t + 1)))] ?_ (fun j_107 => ?_)
        · intro ls H locs hl hP hD hS
          refine lv_istore_n (lv' := [(3, .int (nI (rCrd (a 7) (a 8) (a 9) n p1 d (t + 1)))), (0, .ref (b 0)), (1, .int p1), (2, .int (nI (rTks (a 7) (a 8) (a 9) n p1 (t + 1)))), (4, .int (nI t))]) hx hb dX6_crowded_107 rfl hl (by decide) rfl (fun ls hl => ?_)
          refine lv_iinc (v := nI (t + 1)) (lv' := [(4, .int (nI (t + 1))), (3, .int (nI (rCrd (a 7) (a 8) (a 9) n p1 d (t + 1)))), (0, .ref (b 0)), (1, .int p1), (2, .int (nI (rTks (a 7) (a 8) (a 9) n p1 (t + 1))))]) hx hb dX6_crowded_108 hl (k := 4) rfl (x_inc t) (by decide) rfl (fun ls hl => ?_)
          refine lv_goto (tgt := 27) hx hb dX6_crowded_111 (by decide) ?_
          exact iht (by omega) (rMvB g.1 (d t) 3, rCol (a 7) (a 8) (a 9) p1 (nI t) n g.2 (as t) (d t) 3) _ _ _ trivial (lv_sub hl [2, 3, 4, 1, 0] rfl) hP hD hS
        have hl := lv_cast (l' := [(2, .int (nI (rTks (a 7) (a 8) (a 9) n p1 (t + 1)))), (5, .int (nI (rMany (a 7) (a 8) (a 9) p1 (nI t) 0 n + rMany (a 7) (a 8) (a 9) p1 (nI t) 1 n + rMany (a 7) (a 8) (a 9) p1 (nI t) 2 n))), (0, .ref (b 0)), (1, .int p1), (3, .int (nI (rCrd (a 7) (a 8) (a 9) n p1 d t))), (4, .int (nI t))]) hl (by rw [show nI (rTks (a 7) (a 8) (a 9) n p1 (t + 1)) = nI (rTks (a 7) (a 8) (a 9) n p1 (t + 1)) from (by rw [rTks, if_pos c_64])])
        refine lv_iload_n hx hb dX6_crowded_77 rfl (lv_at hl 4 rfl) ?_
        refine lv_aload_n hx hb dX6_crowded_78 rfl (lv_at hl 2 rfl) ?_
        refine va_get (D := D) (ci := 6) (v := .ref (b 14)) (C := RX6) (T := TX6) (N := 23) hx hb hts hiX60 hown hK.1 hP 0 rfl rfl 20 (by decide) f1 (fun _ h9 => h9) rfl dX6_crowded_79 ?_
        refine lv_iconst (v := 0) hx hb dX6_crowded_82 (by decide) ?_
        refine x_tp (y := nI 0) (show (0 : Int32) = nI 0 from rfl) ?_
        refine x_iald hx hb hK hP 14 0 rfl rfl (k := 0) (by omega) (by decide) dX6_crowded_83 ?_
        refine x_tp (y := nI (d t 0)) (rMvB_3 (mv := g.1) (d := d t) (v := 0) (by decide)) ?_
        refine lv_aload_n hx hb dX6_crowded_84 rfl (lv_at hl 2 rfl) ?_
        refine va_get (D := D) (ci := 6) (v := .ref (b 14)) (C := RX6) (T := TX6) (N := 23) hx hb hts hiX60 hown hK.1 hP 0 rfl rfl 20 (by decide) f1 (fun _ h9 => h9) rfl dX6_crowded_85 ?_
        refine lv_iconst (v := 1) hx hb dX6_crowded_88 (by decide) ?_
        refine x_tp (y := nI 1) (show (1 : Int32) = nI 1 from rfl) ?_
        refine x_iald hx hb hK hP 14 0 rfl rfl (k := 1) (by omega) (by decide) dX6_crowded_89 ?_
        refine x_tp (y := nI (d t 1)) (rMvB_3 (mv := g.1) (d := d t) (v := 1) (by decide)) ?_
        refine lv_iadd hx hb dX6_crowded_90 ?_
        refine x_tp (y := nI (d t 0 + d t 1)) (nI_add _ _) ?_
        refine lv_aload_n hx hb dX6_crowded_91 rfl (lv_at hl 2 rfl) ?_
        refine va_get (D := D) (ci := 6) (v := .ref (b 14)) (C := RX6) (T := TX6) (N := 23) hx hb hts hiX60 hown hK.1 hP 0 rfl rfl 20 (by decide) f1 (fun _ h9 => h9) rfl dX6_crowded_92 ?_
        refine lv_iconst (v := 2) hx hb dX6_crowded_95 (by decide) ?_
        refine x_tp (y := nI 2) (show (2 : Int32) = nI 2 from rfl) ?_
        refine x_iald hx hb hK hP 14 0 rfl rfl (k := 2) (by omega) (by decide) dX6_crowded_96 ?_
        refine x_tp (y := nI (d t 2)) (rMvB_3 (mv := g.1) (d := d t) (v := 2) (by decide)) ?_
        refine lv_iadd hx hb dX6_crowded_97 ?_
        refine x_tp (y := nI (d t 0 + d t 1 + d t 2)) (nI_add _ _) ?_
        have hdv0 := (hmv (a 15) 0 (by decide)).1
        have hdv1 := (hmv (a 15) 1 (by decide)).1
        have hdv2 := (hmv (a 15) 2 (by decide)).1
        refine x_cle (tgt := 105) hx hb dX6_crowded_98 (by decide) (fun c_98 => ?_) (fun c_98 => ?_)
        · refine lv_iconst (v := 0) hx hb dX6_crowded_105 (by decide) ?_
          refine lv_iadd hx hb dX6_crowded_106 ?_
          refine x_tp (y := nI (rCrd (a 7) (a 8) (a 9) n p1 d (t + 1))) (by rw [rCrd, if_neg (fun h => c_98 ((nI_pos0 (by omega)).mpr h.2))]; exact Int32.add_zero _) ?_
          exact j_107 _ _ _ (lv_sub hl [2, 3, 0, 4, 5] rfl) hP hD hS
        · refine lv_iconst (v := 1) hx hb dX6_crowded_101 (by decide) ?_
          refine lv_goto (tgt := 106) hx hb dX6_crowded_102 (by decide) ?_
          refine lv_iadd hx hb dX6_crowded_106 ?_
          refine x_tp (y := nI (rCrd (a 7) (a 8) (a 9) n p1 d (t + 1))) (by rw [rCrd, if_pos ⟨c_64, (nI_pos0 (by omega)).mp c_98⟩]; exact nI_1 _) ?_
          exact j_107 _ _ _ (lv_sub hl [2, 3, 0, 4, 5] rfl) hP hD hS
  · refine lv_sipush (v := (-1001)) hx hb dX6_crowded_12 (by decide) ?_
    exact w_iret (S0 := mS) (w1 := mX b cA) (va_up u 0 0, n, m, a) hx hb hr hlk hP hD hS ⟨(by rw [if_neg c_9]), _, (by rw [if_neg (fun h => c_9 h.1)]), fun i hi => rfl⟩ dX6_crowded_15
