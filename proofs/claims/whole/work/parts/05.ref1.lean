set_option maxHeartbeats 4000000 in
set_option maxRecDepth 100000 in
theorem k6_in (l : Launch) (v f t : Int32) : Met l yX6_in wsX6_in ({ frames := 0, cells := 0, slots := 0, locals := 0 }) (fun w9 _ => w9 = ([.int v, .int f, .int t] : List Value).toArray) (vp_Si (fun r => r = bv (¬ v < f ∧ ¬ t < v))) 0 0 (fun _ => False) := by
  refine s_head (C := RX6) (cc := cX6_in) (maxL := 3) (ret := (some .boolean)) [(0, .int v), (1, .int f), (2, .int t)] (by decide) rfl rfl (Nat.le_of_ble_eq_true rfl) rfl ?_
  intro p e s mi below meth c hx hb hr hlk hml hown hts ls hl
  refine lv_iload_n hx hb dX6_in_0 rfl (lv_at hl 0 rfl) ?_
  refine lv_iload_n hx hb dX6_in_1 rfl (lv_at hl 1 rfl) ?_
  refine lv_icmp_lt (tgt := 14) hx hb dX6_in_2 (by decide) (fun c_2 => ?_) (fun c_2 => ?_)
  · refine lv_iconst (v := 0) hx hb dX6_in_14 (by decide) ?_
    exact r_zret hx hb hr hlk rfl ((bv_f (by simp [rAt, rIn, rSh, c_2])).symm) dX6_in_15
  · refine lv_iload_n hx hb dX6_in_5 rfl (lv_at hl 0 rfl) ?_
    refine lv_iload_n hx hb dX6_in_6 rfl (lv_at hl 2 rfl) ?_
    refine lv_icmp_gt (tgt := 14) hx hb dX6_in_7 (by decide) (fun c_7 => ?_) (fun c_7 => ?_)
    · refine lv_iconst (v := 0) hx hb dX6_in_14 (by decide) ?_
      exact r_zret hx hb hr hlk rfl ((bv_f (by simp [rAt, rIn, rSh, c_2, c_7])).symm) dX6_in_15
    · refine lv_iconst (v := 1) hx hb dX6_in_10 (by decide) ?_
      refine lv_goto (tgt := 15) hx hb dX6_in_11 (by decide) ?_
      exact r_zret hx hb hr hlk rfl ((bv_t (by simp [rAt, rIn, rSh, c_2, c_7])).symm) dX6_in_15

set_option maxHeartbeats 4000000 in
set_option maxRecDepth 100000 in
theorem k6_isStaff (l : Launch) (v : Int32) : Met l yX6_isStaff wsX6_isStaff ({ frames := 1, cells := 0, slots := 0, locals := 22 }) (fun w9 _ => w9 = ([.int v] : List Value).toArray) (vp_Si (fun r => r = bv (¬ v < 0 ∧ ¬ 3 < v))) 0 0 (fun _ => False) := by
  refine s_head (C := RX6) (cc := cX6_isStaff) (maxL := 1) (ret := (some .boolean)) [(0, .int v)] (by decide) rfl rfl (Nat.le_of_ble_eq_true rfl) rfl ?_
  intro p e s mi below meth c hx hb hr hlk hml hown hts ls hl
  refine lv_iload_n hx hb dX6_isStaff_0 rfl (lv_at hl 0 rfl) ?_
  refine lv_iconst (v := 0) hx hb dX6_isStaff_1 (by decide) ?_
  refine lv_iconst (v := 3) hx hb dX6_isStaff_2 (by decide) ?_
  refine rcSi (As := [.int v, .int 0, .int 3]) (rest := []) ⟨hx, hb, hml, hown, hts⟩ (k6_in l v 0 3) (va_cwS 3 hts gX6_isStaff_X6_in rfl rfl rfl (by decide +kernel) ⟨Nat.le_of_ble_eq_true rfl, Nat.le_of_ble_eq_true rfl⟩) rfl hl.1 rfl (Nat.le_of_ble_eq_true rfl) dX6_isStaff_3 ⟨Nat.zero_le _, Nat.zero_le _⟩ ?_
  exact r_zret hx hb hr hlk bv_nar (rfl) dX6_isStaff_6

set_option maxHeartbeats 4000000 in
set_option maxRecDepth 100000 in
theorem k6_isNote (l : Launch) (D : va_G) (b : Nat → Nat) (cA : ClassId) (u : Nat → Int32) (n m : Nat) (a : Nat → Nat → Int32) (k : Int32) : Met l yX6_isNote wsX6_isNote ({ frames := 1, cells := 0, slots := 0, locals := 22 }) (rPc D (mW b cA u n m a) [(cA, .int)] [.ref (b 0), .int k]) (vp_Si (fun r => r = bv (¬ k < 0 ∧ ¬ nI n - 1 < k))) 0 0 (fun _ => False) := by
  refine r_head (C := RX6) (cc := cX6_isNote) (maxL := 2) (ret := (some .boolean)) [(0, .ref (b 0)), (1, .int k)] (by decide) rfl rfl (Nat.le_of_ble_eq_true rfl) rfl ?_
  intro p e s mi below meth c hx hb hr hlk hml hown hts hP hK ls hl
  have hiX60 : ∀ w ∈ wsX60, w ∈ wsX6_isNote := fun w h => List.mem_cons_of_mem _ (List.mem_append_right _ h)
  have f0 := hts (.fieldLink RX6 76 "StaffHeadsModel" "notes" "I") (List.mem_of_getElem? (i := 1) rfl)
  refine lv_iload_n hx hb dX6_isNote_0 rfl (lv_at hl 1 rfl) ?_
  refine lv_iconst (v := 0) hx hb dX6_isNote_1 (by decide) ?_
  refine lv_aload_n hx hb dX6_isNote_2 rfl (lv_at hl 0 rfl) ?_
  refine va_get (D := D) (ci := 6) (v := .int (nI n)) (C := RX6) (T := TX6) (N := 23) hx hb hts hiX60 hown hK.1 hP 0 rfl rfl 9 (by decide) f0 (fun _ h9 => h9) rfl dX6_isNote_3 ?_
  refine lv_iconst (v := 1) hx hb dX6_isNote_6 (by decide) ?_
  refine lv_isub hx hb dX6_isNote_7 ?_
  refine rcSi (As := [.int k, .int 0, .int ((nI n) - 1)]) (rest := []) ⟨hx, hb, hml, hown, hts⟩ (k6_in l k 0 ((nI n) - 1)) (va_cwS 3 hts gX6_isNote_X6_in rfl rfl rfl (by decide +kernel) ⟨Nat.le_of_ble_eq_true rfl, Nat.le_of_ble_eq_true rfl⟩) rfl hl.1 rfl (Nat.le_of_ble_eq_true rfl) dX6_isNote_8 ⟨Nat.zero_le _, Nat.zero_le _⟩ ?_
  exact r_zret hx hb hr hlk bv_nar (rfl) dX6_isNote_11

set_option maxHeartbeats 4000000 in
set_option maxRecDepth 100000 in
theorem k6_step (l : Launch) (D : va_G) (b : Nat → Nat) (cA : ClassId) (u : Nat → Int32) (n m : Nat) (a : Nat → Nat → Int32) (k : Nat) (hk : k < 60) : Met l yX6_step wsX6_step ({ frames := 0, cells := 0, slots := 0, locals := 0 }) (rPc D (mW b cA u n m a) [(cA, .int)] [.ref (b 0), .int (nI k)]) (vp_Si (fun r => r = a 13 k)) 0 0 (fun _ => False) := by
  refine r_head (C := RX6) (cc := cX6_step) (maxL := 2) (ret := (some .int)) [(0, .ref (b 0)), (1, .int (nI k))] (by decide) rfl rfl (Nat.le_of_ble_eq_true rfl) rfl ?_
  intro p e s mi below meth c hx hb hr hlk hml hown hts hP hK ls hl
  have hiX60 : ∀ w ∈ wsX60, w ∈ wsX6_step := fun w h => List.mem_cons_of_mem _ (List.mem_append_right _ h)
  have f0 := hts (.fieldLink RX6 53 "StaffHeadsModel" "stepOf" "[I") (List.mem_of_getElem? (i := 1) rfl)
  refine lv_aload_n hx hb dX6_step_0 rfl (lv_at hl 0 rfl) ?_
  refine va_get (D := D) (ci := 6) (v := .ref (b 13)) (C := RX6) (T := TX6) (N := 23) hx hb hts hiX60 hown hK.1 hP 0 rfl rfl 19 (by decide) f0 (fun _ h9 => h9) rfl dX6_step_1 ?_
  refine lv_iload_n hx hb dX6_step_4 rfl (lv_at hl 1 rfl) ?_
  refine x_iald hx hb hK hP 13 0 rfl rfl (k := k) (by omega) (by decide) dX6_step_5 ?_
  exact r_iret hx hb hr hlk (rfl) dX6_step_6

set_option maxHeartbeats 4000000 in
set_option maxRecDepth 100000 in
theorem k6_isAt (l : Launch) (D : va_G) (b : Nat → Nat) (cA : ClassId) (u : Nat → Int32) (n m : Nat) (a : Nat → Nat → Int32) (k : Nat) (p1 p2 : Int32) (hk : k < 60) : Met l yX6_isAt wsX6_isAt ({ frames := 0, cells := 0, slots := 0, locals := 0 }) (rPc D (mW b cA u n m a) [(cA, .int)] [.ref (b 0), .int (nI k), .int p1, .int p2]) (vp_Si (fun r => r = bv (rAt (a 7) (a 9) k p1 p2))) 0 0 (fun _ => False) := by
  refine r_head (C := RX6) (cc := cX6_isAt) (maxL := 4) (ret := (some .boolean)) [(0, .ref (b 0)), (1, .int (nI k)), (2, .int p1), (3, .int p2)] (by decide) rfl rfl (Nat.le_of_ble_eq_true rfl) rfl ?_
  intro p e s mi below meth c hx hb hr hlk hml hown hts hP hK ls hl
  have hiX60 : ∀ w ∈ wsX60, w ∈ wsX6_isAt := fun w h => List.mem_cons_of_mem _ (List.mem_append_right _ h)
  have f0 := hts (.fieldLink RX6 28 "StaffHeadsModel" "staffOf" "[I") (List.mem_of_getElem? (i := 1) rfl)
  have f1 := hts (.fieldLink RX6 34 "StaffHeadsModel" "tickOf" "[I") (List.mem_of_getElem? (i := 2) rfl)
  refine lv_aload_n hx hb dX6_isAt_0 rfl (lv_at hl 0 rfl) ?_
  refine va_get (D := D) (ci := 6) (v := .ref (b 7)) (C := RX6) (T := TX6) (N := 23) hx hb hts hiX60 hown hK.1 hP 0 rfl rfl 10 (by decide) f0 (fun _ h9 => h9) rfl dX6_isAt_1 ?_
  refine lv_iload_n hx hb dX6_isAt_4 rfl (lv_at hl 1 rfl) ?_
  refine x_iald hx hb hK hP 7 0 rfl rfl (k := k) (by omega) (by decide) dX6_isAt_5 ?_
  refine lv_iload_n hx hb dX6_isAt_6 rfl (lv_at hl 2 rfl) ?_
  refine lv_icmp_ne (tgt := 24) hx hb dX6_isAt_7 (by decide) (fun c_7 => ?_) (fun c_7 => ?_)
  · refine lv_iconst (v := 0) hx hb dX6_isAt_24 (by decide) ?_
    exact r_zret hx hb hr hlk rfl ((bv_f (by simp [rAt, rIn, rSh, c_7])).symm) dX6_isAt_25
  · refine lv_aload_n hx hb dX6_isAt_10 rfl (lv_at hl 0 rfl) ?_
    refine va_get (D := D) (ci := 6) (v := .ref (b 9)) (C := RX6) (T := TX6) (N := 23) hx hb hts hiX60 hown hK.1 hP 0 rfl rfl 12 (by decide) f1 (fun _ h9 => h9) rfl dX6_isAt_11 ?_
    refine lv_iload_n hx hb dX6_isAt_14 rfl (lv_at hl 1 rfl) ?_
    refine x_iald hx hb hK hP 9 0 rfl rfl (k := k) (by omega) (by decide) dX6_isAt_15 ?_
    refine lv_iload_n hx hb dX6_isAt_16 rfl (lv_at hl 3 rfl) ?_
    refine lv_icmp_ne (tgt := 24) hx hb dX6_isAt_17 (by decide) (fun c_17 => ?_) (fun c_17 => ?_)
    · refine lv_iconst (v := 0) hx hb dX6_isAt_24 (by decide) ?_
      exact r_zret hx hb hr hlk rfl ((bv_f (by simp [rAt, rIn, rSh, c_7, c_17])).symm) dX6_isAt_25
    · refine lv_iconst (v := 1) hx hb dX6_isAt_20 (by decide) ?_
      refine lv_goto (tgt := 25) hx hb dX6_isAt_21 (by decide) ?_
      exact r_zret hx hb hr hlk rfl ((bv_t (by simp [rAt, rIn, rSh, c_7, c_17])).symm) dX6_isAt_25

set_option maxHeartbeats 4000000 in
set_option maxRecDepth 100000 in
theorem k6_isIn (l : Launch) (D : va_G) (b : Nat → Nat) (cA : ClassId) (u : Nat → Int32) (n m : Nat) (a : Nat → Nat → Int32) (k : Nat) (p1 p2 p3 : Int32) (hk : k < 60) : Met l yX6_isIn wsX6_isIn ({ frames := 1, cells := 0, slots := 0, locals := 23 }) (rPc D (mW b cA u n m a) [(cA, .int)] [.ref (b 0), .int (nI k), .int p1, .int p2, .int p3]) (vp_Si (fun r => r = bv (rIn (a 7) (a 8) (a 9) k p1 p2 p3))) 0 0 (fun _ => False) := by
  refine r_head (C := RX6) (cc := cX6_isIn) (maxL := 5) (ret := (some .boolean)) [(0, .ref (b 0)), (1, .int (nI k)), (2, .int p1), (3, .int p2), (4, .int p3)] (by decide) rfl rfl (Nat.le_of_ble_eq_true rfl) rfl ?_
  intro p e s mi below meth c hx hb hr hlk hml hown hts hP hK ls hl
  have hiX60 : ∀ w ∈ wsX60, w ∈ wsX6_isIn := fun w h => List.mem_cons_of_mem _ (List.mem_append_right _ h)
  have f0 := hts (.fieldLink RX6 31 "StaffHeadsModel" "voiceOf" "[I") (List.mem_of_getElem? (i := 1) rfl)
  refine lv_aload_n hx hb dX6_isIn_0 rfl (lv_at hl 0 rfl) ?_
  refine lv_iload_n hx hb dX6_isIn_1 rfl (lv_at hl 1 rfl) ?_
  refine lv_iload_n hx hb dX6_isIn_2 rfl (lv_at hl 2 rfl) ?_
  refine lv_iload_n hx hb dX6_isIn_3 rfl (lv_at hl 3 rfl) ?_
  refine rcVi (As := [.int (nI k), .int p1, .int p2]) (rest := []) ⟨hx, hb, hml, hown, hts⟩ (k6_isAt l D b cA u n m a k p1 p2 (by omega)) (cwV 3 hts gX6_isIn_X6_isAt rfl rfl rfl (by decide +kernel) ⟨Nat.le_of_ble_eq_true rfl, Nat.le_of_ble_eq_true rfl⟩) (va_recv hK.1 hP (ci := 6) (q0 := 0) rfl rfl) hP hK rfl hl.1 rfl (Nat.le_of_ble_eq_true rfl) dX6_isIn_4 ⟨Nat.zero_le _, Nat.zero_le _⟩ ?_
  refine x_ifeq (tgt := 25) hx hb dX6_isIn_7 (by decide) (fun c_7 => ?_) (fun c_7 => ?_)
  · refine lv_iconst (v := 0) hx hb dX6_isIn_25 (by decide) ?_
    exact r_zret hx hb hr hlk rfl ((bv_f (by simp [rAt, rIn, rSh, c_7])).symm) dX6_isIn_26
  · refine lv_aload_n hx hb dX6_isIn_10 rfl (lv_at hl 0 rfl) ?_
    refine va_get (D := D) (ci := 6) (v := .ref (b 8)) (C := RX6) (T := TX6) (N := 23) hx hb hts hiX60 hown hK.1 hP 0 rfl rfl 11 (by decide) f0 (fun _ h9 => h9) rfl dX6_isIn_11 ?_
    refine lv_iload_n hx hb dX6_isIn_14 rfl (lv_at hl 1 rfl) ?_
    refine x_iald hx hb hK hP 8 0 rfl rfl (k := k) (by omega) (by decide) dX6_isIn_15 ?_
    refine lv_iload hx hb dX6_isIn_16 (lv_at hl 4 rfl) ?_
    refine lv_icmp_ne (tgt := 25) hx hb dX6_isIn_18 (by decide) (fun c_18 => ?_) (fun c_18 => ?_)
    · refine lv_iconst (v := 0) hx hb dX6_isIn_25 (by decide) ?_
      exact r_zret hx hb hr hlk rfl ((bv_f (by simp [rAt, rIn, rSh, c_7, c_18])).symm) dX6_isIn_26
    · refine lv_iconst (v := 1) hx hb dX6_isIn_21 (by decide) ?_
      refine lv_goto (tgt := 26) hx hb dX6_isIn_22 (by decide) ?_
      exact r_zret hx hb hr hlk rfl ((bv_t (by simp [rAt, rIn, rSh, c_7, c_18])).symm) dX6_isIn_26

set_option maxHeartbeats 4000000 in
set_option maxRecDepth 100000 in
theorem k6_many (l : Launch) (D : va_G) (b : Nat → Nat) (cA : ClassId) (u : Nat → Int32) (n m : Nat) (a : Nat → Nat → Int32) (p1 p2 p3 : Int32) (hn : n ≤ 60) : Met l yX6_many wsX6_many ({ frames := 2, cells := 0, slots := 0, locals := 47 }) (rPc D (mW b cA u n m a) [(cA, .int)] [.ref (b 0), .int p1, .int p2, .int p3]) (vp_Si (fun r => r = nI (rMany (a 7) (a 8) (a 9) p1 p2 p3 n))) 0 0 (fun _ => False) := by
  refine r_head (C := RX6) (cc := cX6_many) (maxL := 6) (ret := (some .int)) [(0, .ref (b 0)), (1, .int p1), (2, .int p2), (3, .int p3)] (by decide) rfl rfl (Nat.le_of_ble_eq_true rfl) rfl ?_
  intro p e s mi below meth c hx hb hr hlk hml hown hts hP hK ls hl
  have hiX60 : ∀ w ∈ wsX60, w ∈ wsX6_many := fun w h => List.mem_cons_of_mem _ (List.mem_append_right _ h)
  have f0 := hts (.fieldLink RX6 76 "StaffHeadsModel" "notes" "I") (List.mem_of_getElem? (i := 1) rfl)
  refine lv_iconst (v := 0) hx hb dX6_many_0 (by decide) ?_
  refine x_tp (y := nI (rMany (a 7) (a 8) (a 9) p1 p2 p3 0)) (show (0 : Int32) = nI 0 from rfl) ?_
  refine lv_istore (lv' := [(4, .int (nI (rMany (a 7) (a 8) (a 9) p1 p2 p3 0))), (0, .ref (b 0)), (1, .int p1), (2, .int p2), (3, .int p3)]) hx hb dX6_many_1 hl (by decide) rfl (fun ls hl => ?_)
  refine lv_iconst (v := 0) hx hb dX6_many_3 (by decide) ?_
  refine x_tp (y := nI 0) (show (0 : Int32) = nI 0 from rfl) ?_
  refine lv_istore (lv' := [(5, .int (nI 0)), (4, .int (nI (rMany (a 7) (a 8) (a 9) p1 p2 p3 0))), (0, .ref (b 0)), (1, .int p1), (2, .int p2), (3, .int p3)]) hx hb dX6_many_4 hl (by decide) rfl (fun ls hl => ?_)
  refine lpR (G := fun ls => W p l e _ s mi _ below meth c _ _ _ _ _ (F0 mi 6 ls [])) 6 n (fun k (_ : Unit) => [(0, .ref (b 0)), (1, .int p1), (2, .int p2), (3, .int p3), (4, .int (nI (rMany (a 7) (a 8) (a 9) p1 p2 p3 k))), (5, .int (nI k))]) (fun _ _ => True) ?_ 0 () (Nat.zero_le _) trivial (lv_sub hl [2, 3, 4, 5, 1, 0] rfl)
  clear hl ls
  intro k gu hk hkI ls hl ihk
  refine lv_iload hx hb dX6_many_6 (lv_at hl 5 rfl) ?_
  refine lv_aload_n hx hb dX6_many_8 rfl (lv_at hl 0 rfl) ?_
  refine va_get (D := D) (ci := 6) (v := .int (nI n)) (C := RX6) (T := TX6) (N := 23) hx hb hts hiX60 hown hK.1 hP 0 rfl rfl 9 (by decide) f0 (fun _ h9 => h9) rfl dX6_many_9 ?_
  refine x_nge (tgt := 43) hx hb dX6_many_12 (by decide) (by omega) (by omega) (fun c_12 => ?_) (fun c_12 => ?_)
  · obtain rfl : n = k := by omega
    refine lv_iload hx hb dX6_many_43 (lv_at hl 4 rfl) ?_
    exact r_iret hx hb hr hlk (rfl) dX6_many_45
  · refine lv_iload hx hb dX6_many_15 (lv_at hl 4 rfl) ?_
    refine lv_aload_n hx hb dX6_many_17 rfl (lv_at hl 0 rfl) ?_
    refine lv_iload hx hb dX6_many_18 (lv_at hl 5 rfl) ?_
    refine lv_iload_n hx hb dX6_many_20 rfl (lv_at hl 1 rfl) ?_
    refine lv_iload_n hx hb dX6_many_21 rfl (lv_at hl 2 rfl) ?_
    refine lv_iload_n hx hb dX6_many_22 rfl (lv_at hl 3 rfl) ?_
    refine rcVi (As := [.int (nI k), .int p1, .int p2, .int p3]) (rest := [.int (nI (rMany (a 7) (a 8) (a 9) p1 p2 p3 k))]) ⟨hx, hb, hml, hown, hts⟩ (k6_isIn l D b cA u n m a k p1 p2 p3 (by omega)) (cwV 4 hts gX6_many_X6_isIn rfl rfl rfl (by decide +kernel) ⟨Nat.le_of_ble_eq_true rfl, Nat.le_of_ble_eq_true rfl⟩) (va_recv hK.1 hP (ci := 6) (q0 := 0) rfl rfl) hP hK rfl hl.1 rfl (Nat.le_of_ble_eq_true rfl) dX6_many_23 ⟨Nat.zero_le _, Nat.zero_le _⟩ ?_
    refine x_ifeq (tgt := 33) hx hb dX6_many_26 (by decide) (fun c_26 => ?_) (fun c_26 => ?_)
    · refine lv_iconst (v := 0) hx hb dX6_many_33 (by decide) ?_
      refine lv_iadd hx hb dX6_many_34 ?_
      refine x_tp (y := nI (rMany (a 7) (a 8) (a 9) p1 p2 p3 (k + 1))) (by rw [rMany_f c_26]; exact Int32.add_zero _) ?_
      refine lv_istore (lv' := [(4, .int (nI (rMany (a 7) (a 8) (a 9) p1 p2 p3 (k + 1)))), (0, .ref (b 0)), (1, .int p1), (2, .int p2), (3, .int p3), (5, .int (nI k))]) hx hb dX6_many_35 hl (by decide) rfl (fun ls hl => ?_)
      refine lv_iinc (v := nI (k + 1)) (lv' := [(5, .int (nI (k + 1))), (4, .int (nI (rMany (a 7) (a 8) (a 9) p1 p2 p3 (k + 1)))), (0, .ref (b 0)), (1, .int p1), (2, .int p2), (3, .int p3)]) hx hb dX6_many_37 hl (k := 5) rfl (x_inc k) (by decide) rfl (fun ls hl => ?_)
      refine lv_goto (tgt := 6) hx hb dX6_many_40 (by decide) ?_
      exact ihk (by omega) () _ trivial (lv_sub hl [2, 3, 4, 5, 1, 0] rfl)
    · refine lv_iconst (v := 1) hx hb dX6_many_29 (by decide) ?_
      refine lv_goto (tgt := 34) hx hb dX6_many_30 (by decide) ?_
      refine lv_iadd hx hb dX6_many_34 ?_
      refine x_tp (y := nI (rMany (a 7) (a 8) (a 9) p1 p2 p3 (k + 1))) (by rw [rMany_t c_26]; exact nI_1 _) ?_
      refine lv_istore (lv' := [(4, .int (nI (rMany (a 7) (a 8) (a 9) p1 p2 p3 (k + 1)))), (0, .ref (b 0)), (1, .int p1), (2, .int p2), (3, .int p3), (5, .int (nI k))]) hx hb dX6_many_35 hl (by decide) rfl (fun ls hl => ?_)
      refine lv_iinc (v := nI (k + 1)) (lv' := [(5, .int (nI (k + 1))), (4, .int (nI (rMany (a 7) (a 8) (a 9) p1 p2 p3 (k + 1)))), (0, .ref (b 0)), (1, .int p1), (2, .int p2), (3, .int p3)]) hx hb dX6_many_37 hl (k := 5) rfl (x_inc k) (by decide) rfl (fun ls hl => ?_)
      refine lv_goto (tgt := 6) hx hb dX6_many_40 (by decide) ?_
      exact ihk (by omega) () _ trivial (lv_sub hl [2, 3, 4, 5, 1, 0] rfl)

set_option maxHeartbeats 4000000 in
set_option maxRecDepth 100000 in
theorem k6_end (l : Launch) (D : va_G) (b : Nat → Nat) (cA : ClassId) (u : Nat → Int32) (n m : Nat) (a : Nat → Nat → Int32) (p1 p2 p3 : Int32) (hi : Prop) [Decidable hi] (hn : n ≤ 60) : Met l yX6_end wsX6_end ({ frames := 2, cells := 0, slots := 0, locals := 47 }) (rPc D (mW b cA u n m a) [(cA, .int)] [.ref (b 0), .int p1, .int p2, .int p3, .int (bv hi)]) (vp_Si (fun r => r = rEnd (a 7) (a 8) (a 9) (a 13) p1 p2 p3 hi n)) 0 0 (fun _ => False) := by
  refine r_head (C := RX6) (cc := cX6_end) (maxL := 8) (ret := (some .int)) [(0, .ref (b 0)), (1, .int p1), (2, .int p2), (3, .int p3), (4, .int (bv hi))] (by decide) rfl rfl (Nat.le_of_ble_eq_true rfl) rfl ?_
  intro p e s mi below meth c hx hb hr hlk hml hown hts hP hK ls hl
  have hiX60 : ∀ w ∈ wsX60, w ∈ wsX6_end := fun w h => List.mem_cons_of_mem _ (List.mem_append_right _ h)
  have f0 := hts (.fieldLink RX6 76 "StaffHeadsModel" "notes" "I") (List.mem_of_getElem? (i := 1) rfl)
  refine x_join 8 [(0, .ref (b 0)), (1, .int p1), (2, .int p2), (3, .int p3), (4, .int (bv hi))] 14 [.int (rEnd (a 7) (a 8) (a 9) (a 13) p1 p2 p3 hi 0)] ?_ (fun j_14 => ?_)
  · intro ls hl
    refine lv_istore (lv' := [(5, .int (rEnd (a 7) (a 8) (a 9) (a 13) p1 p2 p3 hi 0)), (0, .ref (b 0)), (1, .int p1), (2, .int p2), (3, .int p3), (4, .int (bv hi))]) hx hb dX6_end_14 hl (by decide) rfl (fun ls hl => ?_)
    refine lv_iconst (v := 0) hx hb dX6_end_16 (by decide) ?_
    refine x_tp (y := nI 0) nI_0.symm ?_
    refine lv_istore (lv' := [(6, .int (nI 0)), (5, .int (rEnd (a 7) (a 8) (a 9) (a 13) p1 p2 p3 hi 0)), (0, .ref (b 0)), (1, .int p1), (2, .int p2), (3, .int p3), (4, .int (bv hi))]) hx hb dX6_end_17 hl (by decide) rfl (fun ls hl => ?_)
    refine lpR (G := fun ls => W p l e _ s mi _ below meth c _ _ _ _ _ (F0 mi 19 ls [])) 8 n (fun k (_ : Unit) => [(0, .ref (b 0)), (1, .int p1), (2, .int p2), (3, .int p3), (4, .int (bv hi)), (5, .int (rEnd (a 7) (a 8) (a 9) (a 13) p1 p2 p3 hi k)), (6, .int (nI k))]) (fun _ _ => True) ?_ 0 () (Nat.zero_le _) trivial (lv_sub hl [2, 3, 4, 5, 6, 1, 0] rfl)
    clear hl ls
    intro k gu hk hkI ls hl ihk
    refine lv_iload hx hb dX6_end_19 (lv_at hl 6 rfl) ?_
    refine lv_aload_n hx hb dX6_end_21 rfl (lv_at hl 0 rfl) ?_
    refine va_get (D := D) (ci := 6) (v := .int (nI n)) (C := RX6) (T := TX6) (N := 23) hx hb hts hiX60 hown hK.1 hP 0 rfl rfl 9 (by decide) f0 (fun _ h9 => h9) rfl dX6_end_22 ?_
    refine x_nge (tgt := 80) hx hb dX6_end_25 (by decide) (by omega) (by omega) (fun c_25 => ?_) (fun c_25 => ?_)
    · obtain rfl : n = k := by omega
      refine lv_iload hx hb dX6_end_80 (lv_at hl 5 rfl) ?_
      exact r_iret hx hb hr hlk (rfl) dX6_end_82
    · refine lv_aload_n hx hb dX6_end_28 rfl (lv_at hl 0 rfl) ?_
      refine lv_iload hx hb dX6_end_29 (lv_at hl 6 rfl) ?_
      refine lv_iload_n hx hb dX6_end_31 rfl (lv_at hl 1 rfl) ?_
      refine lv_iload_n hx hb dX6_end_32 rfl (lv_at hl 2 rfl) ?_
      refine lv_iload_n hx hb dX6_end_33 rfl (lv_at hl 3 rfl) ?_
      refine rcVi (As := [.int (nI k), .int p1, .int p2, .int p3]) (rest := []) ⟨hx, hb, hml, hown, hts⟩ (k6_isIn l D b cA u n m a k p1 p2 p3 (by omega)) (cwV 4 hts gX6_end_X6_isIn rfl rfl rfl (by decide +kernel) ⟨Nat.le_of_ble_eq_true rfl, Nat.le_of_ble_eq_true rfl⟩) (va_recv hK.1 hP (ci := 6) (q0 := 0) rfl rfl) hP hK rfl hl.1 rfl (Nat.le_of_ble_eq_true rfl) dX6_end_34 ⟨Nat.zero_le _, Nat.zero_le _⟩ ?_
      refine x_ifeq (tgt := 74) hx hb dX6_end_37 (by decide) (fun c_37 => ?_) (fun c_37 => ?_)
      · have hl := lv_cast (l' := [(0, .ref (b 0)), (1, .int p1), (2, .int p2), (3, .int p3), (4, .int (bv hi)), (5, .int (rEnd (a 7) (a 8) (a 9) (a 13) p1 p2 p3 hi (k + 1))), (6, .int (nI k))]) hl (by rw [show rEnd (a 7) (a 8) (a 9) (a 13) p1 p2 p3 hi k = rEnd (a 7) (a 8) (a 9) (a 13) p1 p2 p3 hi (k + 1) from (rEnd_n c_37).symm])
        refine lv_iinc (v := nI (k + 1)) (lv' := [(6, .int (nI (k + 1))), (0, .ref (b 0)), (1, .int p1), (2, .int p2), (3, .int p3), (4, .int (bv hi)), (5, .int (rEnd (a 7) (a 8) (a 9) (a 13) p1 p2 p3 hi (k + 1)))]) hx hb dX6_end_74 hl (k := 6) rfl (x_inc k) (by decide) rfl (fun ls hl => ?_)
        refine lv_goto (tgt := 19) hx hb dX6_end_77 (by decide) ?_
        exact ihk (by omega) () _ trivial (lv_sub hl [1, 2, 3, 4, 5, 6, 0] rfl)
      · refine lv_aload_n hx hb dX6_end_40 rfl (lv_at hl 0 rfl) ?_
        refine lv_iload hx hb dX6_end_41 (lv_at hl 6 rfl) ?_
        refine rcVi (As := [.int (nI k)]) (rest := []) ⟨hx, hb, hml, hown, hts⟩ (k6_step l D b cA u n m a k (by omega)) (cwV 1 hts gX6_end_X6_step rfl rfl rfl (by decide +kernel) ⟨Nat.le_of_ble_eq_true rfl, Nat.le_of_ble_eq_true rfl⟩) (va_recv hK.1 hP (ci := 6) (q0 := 0) rfl rfl) hP hK rfl hl.1 rfl (Nat.le_of_ble_eq_true rfl) dX6_end_43 ⟨Nat.zero_le _, Nat.zero_le _⟩ ?_
        refine lv_istore (lv' := [(7, .int (a 13 k)), (0, .ref (b 0)), (1, .int p1), (2, .int p2), (3, .int p3), (4, .int (bv hi)), (5, .int (rEnd (a 7) (a 8) (a 9) (a 13) p1 p2 p3 hi k)), (6, .int (nI k))]) hx hb dX6_end_46 hl (by decide) rfl (fun ls hl => ?_)
        refine lv_iload hx hb dX6_end_48 (lv_at hl 5 rfl) ?_
        refine lv_iload hx hb dX6_end_50 (lv_at hl 0 rfl) ?_
        refine lv_iload hx hb dX6_end_52 (lv_at hl 6 rfl) ?_
        refine x_ile (tgt := 61) hx hb dX6_end_54 (by decide) (fun c_54 => ?_) (fun c_54 => ?_)
        · refine lv_iconst (v := 0) hx hb dX6_end_61 (by decide) ?_
          refine lv_icmp_ne (tgt := 70) hx hb dX6_end_62 (by decide) (fun c_62 => ?_) (fun c_62 => ?_)
          · refine lv_iload hx hb dX6_end_70 (lv_at hl 6 rfl) ?_
            refine x_tp (y := rEnd (a 7) (a 8) (a 9) (a 13) p1 p2 p3 hi (k + 1)) (rEnd_o c_37 (iff_tf (bv_n0 c_62) c_54)).symm ?_
            refine lv_istore (lv' := [(5, .int (rEnd (a 7) (a 8) (a 9) (a 13) p1 p2 p3 hi (k + 1))), (7, .int (a 13 k)), (0, .ref (b 0)), (1, .int p1), (2, .int p2), (3, .int p3), (4, .int (bv hi)), (6, .int (nI k))]) hx hb dX6_end_72 hl (by decide) rfl (fun ls hl => ?_)
            refine lv_iinc (v := nI (k + 1)) (lv' := [(6, .int (nI (k + 1))), (5, .int (rEnd (a 7) (a 8) (a 9) (a 13) p1 p2 p3 hi (k + 1))), (7, .int (a 13 k)), (0, .ref (b 0)), (1, .int p1), (2, .int p2), (3, .int p3), (4, .int (bv hi))]) hx hb dX6_end_74 hl (k := 7) rfl (x_inc k) (by decide) rfl (fun ls hl => ?_)
            refine lv_goto (tgt := 19) hx hb dX6_end_77 (by decide) ?_
            exact ihk (by omega) () _ trivial (lv_sub hl [3, 4, 5, 6, 7, 1, 0] rfl)
          · refine lv_iload hx hb dX6_end_65 (lv_at hl 0 rfl) ?_
            refine lv_goto (tgt := 72) hx hb dX6_end_67 (by decide) ?_
            refine x_tp (y := rEnd (a 7) (a 8) (a 9) (a 13) p1 p2 p3 hi (k + 1)) (rEnd_s c_37 (iff_ff (bv_eq0.mp c_62) c_54)).symm ?_
            refine lv_istore (lv' := [(5, .int (rEnd (a 7) (a 8) (a 9) (a 13) p1 p2 p3 hi (k + 1))), (7, .int (a 13 k)), (0, .ref (b 0)), (1, .int p1), (2, .int p2), (3, .int p3), (4, .int (bv hi)), (6, .int (nI k))]) hx hb dX6_end_72 hl (by decide) rfl (fun ls hl => ?_)
            refine lv_iinc (v := nI (k + 1)) (lv' := [(6, .int (nI (k + 1))), (5, .int (rEnd (a 7) (a 8) (a 9) (a 13) p1 p2 p3 hi (k + 1))), (7, .int (a 13 k)), (0, .ref (b 0)), (1, .int p1), (2, .int p2), (3, .int p3), (4, .int (bv hi))]) hx hb dX6_end_74 hl (k := 7) rfl (x_inc k) (by decide) rfl (fun ls hl => ?_)
            refine lv_goto (tgt := 19) hx hb dX6_end_77 (by decide) ?_
            exact ihk (by omega) () _ trivial (lv_sub hl [3, 4, 5, 6, 7, 1, 0] rfl)
        · refine lv_iconst (v := 1) hx hb dX6_end_57 (by decide) ?_
          refine lv_goto (tgt := 62) hx hb dX6_end_58 (by decide) ?_
          refine lv_icmp_ne (tgt := 70) hx hb dX6_end_62 (by decide) (fun c_62 => ?_) (fun c_62 => ?_)
          · refine lv_iload hx hb dX6_end_70 (lv_at hl 6 rfl) ?_
            refine x_tp (y := rEnd (a 7) (a 8) (a 9) (a 13) p1 p2 p3 hi (k + 1)) (rEnd_o c_37 (iff_ft (bv_n1 c_62) c_54)).symm ?_
            refine lv_istore (lv' := [(5, .int (rEnd (a 7) (a 8) (a 9) (a 13) p1 p2 p3 hi (k + 1))), (7, .int (a 13 k)), (0, .ref (b 0)), (1, .int p1), (2, .int p2), (3, .int p3), (4, .int (bv hi)), (6, .int (nI k))]) hx hb dX6_end_72 hl (by decide) rfl (fun ls hl => ?_)
            refine lv_iinc (v := nI (k + 1)) (lv' := [(6, .int (nI (k + 1))), (5, .int (rEnd (a 7) (a 8) (a 9) (a 13) p1 p2 p3 hi (k + 1))), (7, .int (a 13 k)), (0, .ref (b 0)), (1, .int p1), (2, .int p2), (3, .int p3), (4, .int (bv hi))]) hx hb dX6_end_74 hl (k := 7) rfl (x_inc k) (by decide) rfl (fun ls hl => ?_)
            refine lv_goto (tgt := 19) hx hb dX6_end_77 (by decide) ?_
            exact ihk (by omega) () _ trivial (lv_sub hl [3, 4, 5, 6, 7, 1, 0] rfl)
          · refine lv_iload hx hb dX6_end_65 (lv_at hl 0 rfl) ?_
            refine lv_goto (tgt := 72) hx hb dX6_end_67 (by decide) ?_
            refine x_tp (y := rEnd (a 7) (a 8) (a 9) (a 13) p1 p2 p3 hi (k + 1)) (rEnd_s c_37 (iff_tt (bv_eq1.mp c_62) c_54)).symm ?_
            refine lv_istore (lv' := [(5, .int (rEnd (a 7) (a 8) (a 9) (a 13) p1 p2 p3 hi (k + 1))), (7, .int (a 13 k)), (0, .ref (b 0)), (1, .int p1), (2, .int p2), (3, .int p3), (4, .int (bv hi)), (6, .int (nI k))]) hx hb dX6_end_72 hl (by decide) rfl (fun ls hl => ?_)
            refine lv_iinc (v := nI (k + 1)) (lv' := [(6, .int (nI (k + 1))), (5, .int (rEnd (a 7) (a 8) (a 9) (a 13) p1 p2 p3 hi (k + 1))), (7, .int (a 13 k)), (0, .ref (b 0)), (1, .int p1), (2, .int p2), (3, .int p3), (4, .int (bv hi))]) hx hb dX6_end_74 hl (k := 7) rfl (x_inc k) (by decide) rfl (fun ls hl => ?_)
            refine lv_goto (tgt := 19) hx hb dX6_end_77 (by decide) ?_
            exact ihk (by omega) () _ trivial (lv_sub hl [3, 4, 5, 6, 7, 1, 0] rfl)
  refine lv_iload hx hb dX6_end_0 (lv_at hl 4 rfl) ?_
  refine x_ifeq (tgt := 11) hx hb dX6_end_2 (by decide) (fun c_2 => ?_) (fun c_2 => ?_)
  · refine lv_sipush (v := 1000) hx hb dX6_end_11 (by decide) ?_
    refine x_tp (y := rEnd (a 7) (a 8) (a 9) (a 13) p1 p2 p3 hi 0) (by simp [rEnd, c_2]) ?_
    exact j_14 _ (lv_sub hl [0, 1, 2, 3, 4] rfl)
  · refine lv_sipush (v := (-1000)) hx hb dX6_end_5 (by decide) ?_
    refine lv_goto (tgt := 14) hx hb dX6_end_8 (by decide) ?_
    refine x_tp (y := rEnd (a 7) (a 8) (a 9) (a 13) p1 p2 p3 hi 0) (by simp [rEnd, c_2]) ?_
    exact j_14 _ (lv_sub hl [0, 1, 2, 3, 4] rfl)

set_option maxHeartbeats 4000000 in
set_option maxRecDepth 100000 in
theorem k6_stem (l : Launch) (D : va_G) (b : Nat → Nat) (cA : ClassId) (u : Nat → Int32) (n m : Nat) (a : Nat → Nat → Int32) (p1 p2 p3 : Int32) (hn : n ≤ 60) : Met l yX6_stem wsX6_stem ({ frames := 3, cells := 0, slots := 0, locals := 74 }) (rPc D (mW b cA u n m a) [(cA, .int)] [.ref (b 0), .int p1, .int p2, .int p3]) (vp_Si (fun r => r = bv (rUp (a 7) (a 8) (a 9) (a 13) n p1 p2 p3))) 0 0 (fun _ => False) := by
  refine r_head (C := RX6) (cc := cX6_stem) (maxL := 8) (ret := (some .int)) [(0, .ref (b 0)), (1, .int p1), (2, .int p2), (3, .int p3)] (by decide) rfl rfl (Nat.le_of_ble_eq_true rfl) rfl ?_
  intro p e s mi below meth c hx hb hr hlk hml hown hts hP hK ls hl
  refine lv_iconst (v := 0) hx hb dX6_stem_0 (by decide) ?_
  refine x_tp (y := nI (rLes (a 7) (a 8) (a 9) n p1 p2 p3 0)) (show (0 : Int32) = nI 0 from rfl) ?_
  refine lv_istore (lv' := [(4, .int (nI (rLes (a 7) (a 8) (a 9) n p1 p2 p3 0))), (0, .ref (b 0)), (1, .int p1), (2, .int p2), (3, .int p3)]) hx hb dX6_stem_1 hl (by decide) rfl (fun ls hl => ?_)
  refine lv_iconst (v := 0) hx hb dX6_stem_3 (by decide) ?_
  refine x_tp (y := nI (rGre (a 7) (a 8) (a 9) n p1 p2 p3 0)) (show (0 : Int32) = nI 0 from rfl) ?_
  refine lv_istore (lv' := [(5, .int (nI (rGre (a 7) (a 8) (a 9) n p1 p2 p3 0))), (4, .int (nI (rLes (a 7) (a 8) (a 9) n p1 p2 p3 0))), (0, .ref (b 0)), (1, .int p1), (2, .int p2), (3, .int p3)]) hx hb dX6_stem_4 hl (by decide) rfl (fun ls hl => ?_)
  refine lv_iconst (v := 0) hx hb dX6_stem_6 (by decide) ?_
  refine x_tp (y := nI 0) nI_0.symm ?_
  refine lv_istore (lv' := [(6, .int (nI 0)), (5, .int (nI (rGre (a 7) (a 8) (a 9) n p1 p2 p3 0))), (4, .int (nI (rLes (a 7) (a 8) (a 9) n p1 p2 p3 0))), (0, .ref (b 0)), (1, .int p1), (2, .int p2), (3, .int p3)]) hx hb dX6_stem_7 hl (by decide) rfl (fun ls hl => ?_)
  refine lpR (G := fun ls => W p l e _ s mi _ below meth c _ _ _ _ _ (F0 mi 9 ls [])) 8 3 (fun v (_ : Unit) => [(0, .ref (b 0)), (1, .int p1), (2, .int p2), (3, .int p3), (4, .int (nI (rLes (a 7) (a 8) (a 9) n p1 p2 p3 v))), (5, .int (nI (rGre (a 7) (a 8) (a 9) n p1 p2 p3 v))), (6, .int (nI v))]) (fun _ _ => True) ?_ 0 () (Nat.zero_le _) trivial (lv_sub hl [3, 4, 5, 6, 2, 1, 0] rfl)
  clear hl ls
  intro v gu hv hvI ls hl ihv
  refine lv_iload hx hb dX6_stem_9 (lv_at hl 6 rfl) ?_
  refine lv_iconst (v := 3) hx hb dX6_stem_11 (by decide) ?_
  refine x_tp (y := nI 3) (show (3 : Int32) = nI 3 from rfl) ?_
  refine x_nge (tgt := 65) hx hb dX6_stem_12 (by decide) (by omega) (by omega) (fun c_12 => ?_) (fun c_12 => ?_)
  · obtain rfl : 3 = v := by omega
    refine lv_iload hx hb dX6_stem_65 (lv_at hl 4 rfl) ?_
    refine lv_iload hx hb dX6_stem_67 (lv_at hl 5 rfl) ?_
    refine lv_iadd hx hb dX6_stem_69 ?_
    have hL3 := rLes_le (a 7) (a 8) (a 9) n p1 p2 p3 3
    have hG3 := rGre_le (a 7) (a 8) (a 9) n p1 p2 p3 3
    refine x_tp (y := nI (rLes (a 7) (a 8) (a 9) n p1 p2 p3 3 + rGre (a 7) (a 8) (a 9) n p1 p2 p3 3)) (nI_add _ _) ?_
    refine x_cle (tgt := 84) hx hb dX6_stem_70 (by decide) (fun c_70 => ?_) (fun c_70 => ?_)
    · refine lv_aload_n hx hb dX6_stem_84 rfl (lv_at hl 0 rfl) ?_
      refine lv_iload_n hx hb dX6_stem_85 rfl (lv_at hl 1 rfl) ?_
      refine lv_iload_n hx hb dX6_stem_86 rfl (lv_at hl 2 rfl) ?_
      refine lv_iload_n hx hb dX6_stem_87 rfl (lv_at hl 3 rfl) ?_
      refine lv_iconst (v := 1) hx hb dX6_stem_88 (by decide) ?_
      refine x_tp (y := bv True) (bv_t trivial).symm ?_
      refine rcVi (As := [.int p1, .int p2, .int p3, .int (bv True)]) (rest := []) ⟨hx, hb, hml, hown, hts⟩ (k6_end l D b cA u n m a p1 p2 p3 True (by omega)) (cwV 4 hts gX6_stem_X6_end rfl rfl rfl (by decide +kernel) ⟨Nat.le_of_ble_eq_true rfl, Nat.le_of_ble_eq_true rfl⟩) (va_recv hK.1 hP (ci := 6) (q0 := 0) rfl rfl) hP hK rfl hl.1 rfl (Nat.le_of_ble_eq_true rfl) dX6_stem_89 ⟨Nat.zero_le _, Nat.zero_le _⟩ ?_
      refine lv_iconst (v := 4) hx hb dX6_stem_92 (by decide) ?_
      refine lv_isub hx hb dX6_stem_93 ?_
      refine lv_iconst (v := 4) hx hb dX6_stem_94 (by decide) ?_
      refine lv_aload_n hx hb dX6_stem_95 rfl (lv_at hl 0 rfl) ?_
      refine lv_iload_n hx hb dX6_stem_96 rfl (lv_at hl 1 rfl) ?_
      refine lv_iload_n hx hb dX6_stem_97 rfl (lv_at hl 2 rfl) ?_
      refine lv_iload_n hx hb dX6_stem_98 rfl (lv_at hl 3 rfl) ?_
      refine lv_iconst (v := 0) hx hb dX6_stem_99 (by decide) ?_
      refine x_tp (y := bv False) (bv_f id).symm ?_
      refine rcVi (As := [.int p1, .int p2, .int p3, .int (bv False)]) (rest := [.int 4, .int ((rEnd (a 7) (a 8) (a 9) (a 13) p1 p2 p3 True n) - 4)]) ⟨hx, hb, hml, hown, hts⟩ (k6_end l D b cA u n m a p1 p2 p3 False (by omega)) (cwV 4 hts gX6_stem_X6_end rfl rfl rfl (by decide +kernel) ⟨Nat.le_of_ble_eq_true rfl, Nat.le_of_ble_eq_true rfl⟩) (va_recv hK.1 hP (ci := 6) (q0 := 0) rfl rfl) hP hK rfl hl.1 rfl (Nat.le_of_ble_eq_true rfl) dX6_stem_100 ⟨Nat.zero_le _, Nat.zero_le _⟩ ?_
      refine lv_isub hx hb dX6_stem_103 ?_
      refine x_ige (tgt := 111) hx hb dX6_stem_104 (by decide) (fun c_104 => ?_) (fun c_104 => ?_)
      · refine lv_iconst (v := 0) hx hb dX6_stem_111 (by decide) ?_
        have c_70 : rLes (a 7) (a 8) (a 9) n p1 p2 p3 3 + rGre (a 7) (a 8) (a 9) n p1 p2 p3 3 = 0 := Classical.not_not.mp (fun q => c_70 (by rw [← nI_0]; exact nI_lt (by omega) (by omega)))
        exact r_iret hx hb hr hlk ((bv_f (fun q => q.elim (fun h => by omega) (fun h => c_104 h.2))).symm) dX6_stem_112
      · refine lv_iconst (v := 1) hx hb dX6_stem_107 (by decide) ?_
        refine lv_goto (tgt := 112) hx hb dX6_stem_108 (by decide) ?_
        have c_70 : rLes (a 7) (a 8) (a 9) n p1 p2 p3 3 + rGre (a 7) (a 8) (a 9) n p1 p2 p3 3 = 0 := Classical.not_not.mp (fun q => c_70 (by rw [← nI_0]; exact nI_lt (by omega) (by omega)))
        exact r_iret hx hb hr hlk ((bv_t (Or.inr ⟨c_70, c_104⟩)).symm) dX6_stem_112
    · refine lv_iload hx hb dX6_stem_73 (lv_at hl 4 rfl) ?_
      refine lv_if_ne (tgt := 82) hx hb dX6_stem_75 (by decide) (fun c_75 => ?_) (fun c_75 => ?_)
      · refine lv_iconst (v := 0) hx hb dX6_stem_82 (by decide) ?_
        have c_70 : 0 < rLes (a 7) (a 8) (a 9) n p1 p2 p3 3 + rGre (a 7) (a 8) (a 9) n p1 p2 p3 3 := Nat.pos_of_ne_zero (fun q => by rw [q] at c_70; exact absurd c_70 (by decide))
        have c_75 : ¬ rLes (a 7) (a 8) (a 9) n p1 p2 p3 3 = 0 := fun q => c_75 (by rw [q]; rfl)
        exact r_iret hx hb hr hlk ((bv_f (fun q => q.elim (fun h => c_75 h.2) (fun h => by omega))).symm) dX6_stem_83
      · refine lv_iconst (v := 1) hx hb dX6_stem_78 (by decide) ?_
        refine lv_goto (tgt := 83) hx hb dX6_stem_79 (by decide) ?_
        have c_70 : 0 < rLes (a 7) (a 8) (a 9) n p1 p2 p3 3 + rGre (a 7) (a 8) (a 9) n p1 p2 p3 3 := Nat.pos_of_ne_zero (fun q => by rw [q] at c_70; exact absurd c_70 (by decide))
        have c_75 : rLes (a 7) (a 8) (a 9) n p1 p2 p3 3 = 0 := by simpa [nI_ne0] using (nI_eq (b := 0) (by omega) (by omega)).mp c_75
        exact r_iret hx hb hr hlk ((bv_t (Or.inl ⟨c_70, c_75⟩)).symm) dX6_stem_83
  · refine lv_aload_n hx hb dX6_stem_15 rfl (lv_at hl 0 rfl) ?_
    refine lv_iload_n hx hb dX6_stem_16 rfl (lv_at hl 1 rfl) ?_
    refine lv_iload_n hx hb dX6_stem_17 rfl (lv_at hl 2 rfl) ?_
    refine lv_iload hx hb dX6_stem_18 (lv_at hl 6 rfl) ?_
    refine rcVi (As := [.int p1, .int p2, .int (nI v)]) (rest := []) ⟨hx, hb, hml, hown, hts⟩ (k6_many l D b cA u n m a p1 p2 (nI v) (by omega)) (cwV 3 hts gX6_stem_X6_many rfl rfl rfl (by decide +kernel) ⟨Nat.le_of_ble_eq_true rfl, Nat.le_of_ble_eq_true rfl⟩) (va_recv hK.1 hP (ci := 6) (q0 := 0) rfl rfl) hP hK rfl hl.1 rfl (Nat.le_of_ble_eq_true rfl) dX6_stem_20 ⟨Nat.zero_le _, Nat.zero_le _⟩ ?_
    refine lv_istore (lv' := [(7, .int (nI (rMany (a 7) (a 8) (a 9) p1 p2 (nI v) n))), (0, .ref (b 0)), (1, .int p1), (2, .int p2), (3, .int p3), (4, .int (nI (rLes (a 7) (a 8) (a 9) n p1 p2 p3 v))), (5, .int (nI (rGre (a 7) (a 8) (a 9) n p1 p2 p3 v))), (6, .int (nI v))]) hx hb dX6_stem_23 hl (by decide) rfl (fun ls hl => ?_)
    refine x_join 8 [(0, .ref (b 0)), (1, .int p1), (2, .int p2), (3, .int p3), (4, .int (nI (rLes (a 7) (a 8) (a 9) n p1 p2 p3 (v + 1)))), (5, .int (nI (rGre (a 7) (a 8) (a 9) n p1 p2 p3 v))), (6, .int (nI v)), (7, .int (nI (rMany (a 7) (a 8) (a 9) p1 p2 (nI v) n)))] 42 [] ?_ (fun j_42 => ?_)
    · intro ls hl
      refine lv_iload hx hb dX6_stem_42 (lv_at hl 5 rfl) ?_
      refine lv_iload hx hb dX6_stem_44 (lv_at hl 6 rfl) ?_
      refine lv_iload_n hx hb dX6_stem_46 rfl (lv_at hl 3 rfl) ?_
      refine x_ile (tgt := 55) hx hb dX6_stem_47 (by decide) (fun c_47 => ?_) (fun c_47 => ?_)
      · refine lv_iconst (v := 0) hx hb dX6_stem_55 (by decide) ?_
        refine lv_iadd hx hb dX6_stem_56 ?_
        refine x_tp (y := nI (rGre (a 7) (a 8) (a 9) n p1 p2 p3 (v + 1))) (by simp [rGre, c_47, nI_add]) ?_
        refine lv_istore (lv' := [(5, .int (nI (rGre (a 7) (a 8) (a 9) n p1 p2 p3 (v + 1)))), (0, .ref (b 0)), (1, .int p1), (2, .int p2), (3, .int p3), (4, .int (nI (rLes (a 7) (a 8) (a 9) n p1 p2 p3 (v + 1)))), (6, .int (nI v)), (7, .int (nI (rMany (a 7) (a 8) (a 9) p1 p2 (nI v) n)))]) hx hb dX6_stem_57 hl (by decide) rfl (fun ls hl => ?_)
        refine lv_iinc (v := nI (v + 1)) (lv' := [(6, .int (nI (v + 1))), (5, .int (nI (rGre (a 7) (a 8) (a 9) n p1 p2 p3 (v + 1)))), (0, .ref (b 0)), (1, .int p1), (2, .int p2), (3, .int p3), (4, .int (nI (rLes (a 7) (a 8) (a 9) n p1 p2 p3 (v + 1)))), (7, .int (nI (rMany (a 7) (a 8) (a 9) p1 p2 (nI v) n)))]) hx hb dX6_stem_59 hl (k := 6) rfl (x_inc v) (by decide) rfl (fun ls hl => ?_)
        refine lv_goto (tgt := 9) hx hb dX6_stem_62 (by decide) ?_
        exact ihv (by omega) () _ trivial (lv_sub hl [2, 3, 4, 5, 6, 1, 0] rfl)
      · refine lv_iload hx hb dX6_stem_50 (lv_at hl 7 rfl) ?_
        refine lv_goto (tgt := 56) hx hb dX6_stem_52 (by decide) ?_
        refine lv_iadd hx hb dX6_stem_56 ?_
        refine x_tp (y := nI (rGre (a 7) (a 8) (a 9) n p1 p2 p3 (v + 1))) (by simp [rGre, c_47, nI_add]) ?_
        refine lv_istore (lv' := [(5, .int (nI (rGre (a 7) (a 8) (a 9) n p1 p2 p3 (v + 1)))), (0, .ref (b 0)), (1, .int p1), (2, .int p2), (3, .int p3), (4, .int (nI (rLes (a 7) (a 8) (a 9) n p1 p2 p3 (v + 1)))), (6, .int (nI v)), (7, .int (nI (rMany (a 7) (a 8) (a 9) p1 p2 (nI v) n)))]) hx hb dX6_stem_57 hl (by decide) rfl (fun ls hl => ?_)
        refine lv_iinc (v := nI (v + 1)) (lv' := [(6, .int (nI (v + 1))), (5, .int (nI (rGre (a 7) (a 8) (a 9) n p1 p2 p3 (v + 1)))), (0, .ref (b 0)), (1, .int p1), (2, .int p2), (3, .int p3), (4, .int (nI (rLes (a 7) (a 8) (a 9) n p1 p2 p3 (v + 1)))), (7, .int (nI (rMany (a 7) (a 8) (a 9) p1 p2 (nI v) n)))]) hx hb dX6_stem_59 hl (k := 6) rfl (x_inc v) (by decide) rfl (fun ls hl => ?_)
        refine lv_goto (tgt := 9) hx hb dX6_stem_62 (by decide) ?_
        exact ihv (by omega) () _ trivial (lv_sub hl [2, 3, 4, 5, 6, 1, 0] rfl)
    refine lv_iload hx hb dX6_stem_25 (lv_at hl 5 rfl) ?_
    refine lv_iload hx hb dX6_stem_27 (lv_at hl 7 rfl) ?_
    refine lv_iload_n hx hb dX6_stem_29 rfl (lv_at hl 4 rfl) ?_
    refine x_ige (tgt := 38) hx hb dX6_stem_30 (by decide) (fun c_30 => ?_) (fun c_30 => ?_)
    · refine lv_iconst (v := 0) hx hb dX6_stem_38 (by decide) ?_
      refine lv_iadd hx hb dX6_stem_39 ?_
      refine x_tp (y := nI (rLes (a 7) (a 8) (a 9) n p1 p2 p3 (v + 1))) (by simp [rLes, c_30, nI_add]) ?_
      refine lv_istore (lv' := [(4, .int (nI (rLes (a 7) (a 8) (a 9) n p1 p2 p3 (v + 1)))), (7, .int (nI (rMany (a 7) (a 8) (a 9) p1 p2 (nI v) n))), (0, .ref (b 0)), (1, .int p1), (2, .int p2), (3, .int p3), (5, .int (nI (rGre (a 7) (a 8) (a 9) n p1 p2 p3 v))), (6, .int (nI v))]) hx hb dX6_stem_40 hl (by decide) rfl (fun ls hl => ?_)
      exact j_42 _ (lv_sub hl [2, 3, 4, 5, 0, 6, 7, 1] rfl)
    · refine lv_iload hx hb dX6_stem_33 (lv_at hl 0 rfl) ?_
      refine lv_goto (tgt := 39) hx hb dX6_stem_35 (by decide) ?_
      refine lv_iadd hx hb dX6_stem_39 ?_
      refine x_tp (y := nI (rLes (a 7) (a 8) (a 9) n p1 p2 p3 (v + 1))) (by simp [rLes, c_30, nI_add]) ?_
      refine lv_istore (lv' := [(4, .int (nI (rLes (a 7) (a 8) (a 9) n p1 p2 p3 (v + 1)))), (7, .int (nI (rMany (a 7) (a 8) (a 9) p1 p2 (nI v) n))), (0, .ref (b 0)), (1, .int p1), (2, .int p2), (3, .int p3), (5, .int (nI (rGre (a 7) (a 8) (a 9) n p1 p2 p3 v))), (6, .int (nI v))]) hx hb dX6_stem_40 hl (by decide) rfl (fun ls hl => ?_)
      exact j_42 _ (lv_sub hl [2, 3, 4, 5, 0, 6, 7, 1] rfl)

set_option maxHeartbeats 4000000 in
set_option maxRecDepth 100000 in
theorem k6_stemOf (l : Launch) (D : va_G) (b : Nat → Nat) (cA : ClassId) (u : Nat → Int32) (n m : Nat) (a : Nat → Nat → Int32) (k : Nat) (hk : k < 60) (hn : n ≤ 60) : Met l yX6_stemOf wsX6_stemOf ({ frames := 4, cells := 0, slots := 0, locals := 101 }) (rPc D (mW b cA u n m a) [(cA, .int)] [.ref (b 0), .int (nI k)]) (vp_Si (fun r => r = bv (rUp (a 7) (a 8) (a 9) (a 13) n (a 7 k) (a 9 k) (a 8 k)))) 0 0 (fun _ => False) := by
  refine r_head (C := RX6) (cc := cX6_stemOf) (maxL := 2) (ret := (some .int)) [(0, .ref (b 0)), (1, .int (nI k))] (by decide) rfl rfl (Nat.le_of_ble_eq_true rfl) rfl ?_
  intro p e s mi below meth c hx hb hr hlk hml hown hts hP hK ls hl
  have hiX60 : ∀ w ∈ wsX60, w ∈ wsX6_stemOf := fun w h => List.mem_cons_of_mem _ (List.mem_append_right _ h)
  have f0 := hts (.fieldLink RX6 28 "StaffHeadsModel" "staffOf" "[I") (List.mem_of_getElem? (i := 1) rfl)
  have f1 := hts (.fieldLink RX6 34 "StaffHeadsModel" "tickOf" "[I") (List.mem_of_getElem? (i := 2) rfl)
  have f2 := hts (.fieldLink RX6 31 "StaffHeadsModel" "voiceOf" "[I") (List.mem_of_getElem? (i := 3) rfl)
  refine lv_aload_n hx hb dX6_stemOf_0 rfl (lv_at hl 0 rfl) ?_
  refine lv_aload_n hx hb dX6_stemOf_1 rfl (lv_at hl 0 rfl) ?_
  refine va_get (D := D) (ci := 6) (v := .ref (b 7)) (C := RX6) (T := TX6) (N := 23) hx hb hts hiX60 hown hK.1 hP 0 rfl rfl 10 (by decide) f0 (fun _ h9 => h9) rfl dX6_stemOf_2 ?_
  refine lv_iload_n hx hb dX6_stemOf_5 rfl (lv_at hl 1 rfl) ?_
  refine x_iald hx hb hK hP 7 0 rfl rfl (k := k) (by omega) (by decide) dX6_stemOf_6 ?_
  refine lv_aload_n hx hb dX6_stemOf_7 rfl (lv_at hl 0 rfl) ?_
  refine va_get (D := D) (ci := 6) (v := .ref (b 9)) (C := RX6) (T := TX6) (N := 23) hx hb hts hiX60 hown hK.1 hP 0 rfl rfl 12 (by decide) f1 (fun _ h9 => h9) rfl dX6_stemOf_8 ?_
  refine lv_iload_n hx hb dX6_stemOf_11 rfl (lv_at hl 1 rfl) ?_
  refine x_iald hx hb hK hP 9 0 rfl rfl (k := k) (by omega) (by decide) dX6_stemOf_12 ?_
  refine lv_aload_n hx hb dX6_stemOf_13 rfl (lv_at hl 0 rfl) ?_
  refine va_get (D := D) (ci := 6) (v := .ref (b 8)) (C := RX6) (T := TX6) (N := 23) hx hb hts hiX60 hown hK.1 hP 0 rfl rfl 11 (by decide) f2 (fun _ h9 => h9) rfl dX6_stemOf_14 ?_
  refine lv_iload_n hx hb dX6_stemOf_17 rfl (lv_at hl 1 rfl) ?_
  refine x_iald hx hb hK hP 8 0 rfl rfl (k := k) (by omega) (by decide) dX6_stemOf_18 ?_
  refine rcVi (As := [.int (a 7 k), .int (a 9 k), .int (a 8 k)]) (rest := []) ⟨hx, hb, hml, hown, hts⟩ (k6_stem l D b cA u n m a (a 7 k) (a 9 k) (a 8 k) (by omega)) (cwV 3 hts gX6_stemOf_X6_stem rfl rfl rfl (by decide +kernel) ⟨Nat.le_of_ble_eq_true rfl, Nat.le_of_ble_eq_true rfl⟩) (va_recv hK.1 hP (ci := 6) (q0 := 0) rfl rfl) hP hK rfl hl.1 rfl (Nat.le_of_ble_eq_true rfl) dX6_stemOf_19 ⟨Nat.zero_le _, Nat.zero_le _⟩ ?_
  exact r_iret hx hb hr hlk (rfl) dX6_stemOf_22

set_option maxHeartbeats 4000000 in
set_option maxRecDepth 100000 in
theorem k6_isAhead (l : Launch) (D : va_G) (b : Nat → Nat) (cA : ClassId) (u : Nat → Int32) (n m : Nat) (a : Nat → Nat → Int32) (x y : Nat) (up : Prop) (hk : x < 60) (hy : y < 60) : Met l yX6_isAhead wsX6_isAhead ({ frames := 1, cells := 0, slots := 0, locals := 21 }) (rPc D (mW b cA u n m a) [(cA, .int)] [.ref (b 0), .int (nI x), .int (nI y), .int (bv up)]) (vp_Si (fun r => r = bv (rAhead (a 13) x y up))) 0 0 (fun _ => False) := by
  refine r_head (C := RX6) (cc := cX6_isAhead) (maxL := 5) (ret := (some .boolean)) [(0, .ref (b 0)), (1, .int (nI x)), (2, .int (nI y)), (3, .int (bv up))] (by decide) rfl rfl (Nat.le_of_ble_eq_true rfl) rfl ?_
  intro p e s mi below meth c hx hb hr hlk hml hown hts hP hK ls hl
  refine lv_aload_n hx hb dX6_isAhead_0 rfl (lv_at hl 0 rfl) ?_
  refine lv_iload_n hx hb dX6_isAhead_1 rfl (lv_at hl 1 rfl) ?_
  refine rcVi (As := [.int (nI x)]) (rest := []) ⟨hx, hb, hml, hown, hts⟩ (k6_step l D b cA u n m a x (by omega)) (cwV 1 hts gX6_isAhead_X6_step rfl rfl rfl (by decide +kernel) ⟨Nat.le_of_ble_eq_true rfl, Nat.le_of_ble_eq_true rfl⟩) (va_recv hK.1 hP (ci := 6) (q0 := 0) rfl rfl) hP hK rfl hl.1 rfl (Nat.le_of_ble_eq_true rfl) dX6_isAhead_2 ⟨Nat.zero_le _, Nat.zero_le _⟩ ?_
  refine lv_aload_n hx hb dX6_isAhead_5 rfl (lv_at hl 0 rfl) ?_
  refine lv_iload_n hx hb dX6_isAhead_6 rfl (lv_at hl 2 rfl) ?_
  refine rcVi (As := [.int (nI y)]) (rest := [.int (a 13 x)]) ⟨hx, hb, hml, hown, hts⟩ (k6_step l D b cA u n m a y (by omega)) (cwV 1 hts gX6_isAhead_X6_step rfl rfl rfl (by decide +kernel) ⟨Nat.le_of_ble_eq_true rfl, Nat.le_of_ble_eq_true rfl⟩) (va_recv hK.1 hP (ci := 6) (q0 := 0) rfl rfl) hP hK rfl hl.1 rfl (Nat.le_of_ble_eq_true rfl) dX6_isAhead_7 ⟨Nat.zero_le _, Nat.zero_le _⟩ ?_
  refine lv_isub hx hb dX6_isAhead_10 ?_
  refine lv_istore (lv' := [(4, .int ((a 13 x) - (a 13 y))), (0, .ref (b 0)), (1, .int (nI x)), (2, .int (nI y)), (3, .int (bv up))]) hx hb dX6_isAhead_11 hl (by decide) rfl (fun ls hl => ?_)
  refine lv_iload hx hb dX6_isAhead_13 (lv_at hl 0 rfl) ?_
  refine lv_if_ne (tgt := 31) hx hb dX6_isAhead_15 (by decide) (fun c_15 => ?_) (fun c_15 => ?_)
  · refine lv_iload_n hx hb dX6_isAhead_31 rfl (lv_at hl 4 rfl) ?_
    refine lv_iload hx hb dX6_isAhead_32 (lv_at hl 0 rfl) ?_
    refine x_cge (tgt := 41) hx hb dX6_isAhead_34 (by decide) (fun c_34 => ?_) (fun c_34 => ?_)
    · refine lv_iconst (v := 0) hx hb dX6_isAhead_41 (by decide) ?_
      refine lv_icmp_ne (tgt := 49) hx hb dX6_isAhead_42 (by decide) (fun c_42 => ?_) (fun c_42 => ?_)
      · refine lv_iconst (v := 0) hx hb dX6_isAhead_49 (by decide) ?_
        exact r_zret hx hb hr hlk rfl ((bv_f (fun h => h.elim (fun h => c_15 h.1) (fun h => (iff_tf (bv_n0 c_42) c_34) h.2))).symm) dX6_isAhead_50
      · refine lv_iconst (v := 1) hx hb dX6_isAhead_45 (by decide) ?_
        refine lv_goto (tgt := 50) hx hb dX6_isAhead_46 (by decide) ?_
        exact r_zret hx hb hr hlk rfl ((bv_t (Or.inr ⟨c_15, iff_ff (bv_eq0.mp c_42) c_34⟩)).symm) dX6_isAhead_50
    · refine lv_iconst (v := 1) hx hb dX6_isAhead_37 (by decide) ?_
      refine lv_goto (tgt := 42) hx hb dX6_isAhead_38 (by decide) ?_
      refine lv_icmp_ne (tgt := 49) hx hb dX6_isAhead_42 (by decide) (fun c_42 => ?_) (fun c_42 => ?_)
      · refine lv_iconst (v := 0) hx hb dX6_isAhead_49 (by decide) ?_
        exact r_zret hx hb hr hlk rfl ((bv_f (fun h => h.elim (fun h => c_15 h.1) (fun h => (iff_ft (bv_n1 c_42) c_34) h.2))).symm) dX6_isAhead_50
      · refine lv_iconst (v := 1) hx hb dX6_isAhead_45 (by decide) ?_
        refine lv_goto (tgt := 50) hx hb dX6_isAhead_46 (by decide) ?_
        exact r_zret hx hb hr hlk rfl ((bv_t (Or.inr ⟨c_15, iff_tt (bv_eq1.mp c_42) c_34⟩)).symm) dX6_isAhead_50
  · refine lv_iload_n hx hb dX6_isAhead_18 rfl (lv_at hl 2 rfl) ?_
    refine lv_iload_n hx hb dX6_isAhead_19 rfl (lv_at hl 3 rfl) ?_
    refine x_nge (tgt := 27) hx hb dX6_isAhead_20 (by decide) (by omega) (by omega) (fun c_20 => ?_) (fun c_20 => ?_)
    · refine lv_iconst (v := 0) hx hb dX6_isAhead_27 (by decide) ?_
      refine lv_goto (tgt := 50) hx hb dX6_isAhead_28 (by decide) ?_
      exact r_zret hx hb hr hlk rfl ((bv_f (fun h => h.elim (fun h => absurd h.2 (by omega)) (fun h => h.1 c_15))).symm) dX6_isAhead_50
    · refine lv_iconst (v := 1) hx hb dX6_isAhead_23 (by decide) ?_
      refine lv_goto (tgt := 50) hx hb dX6_isAhead_24 (by decide) ?_
      exact r_zret hx hb hr hlk rfl ((bv_t (Or.inl ⟨c_15, c_20⟩)).symm) dX6_isAhead_50

set_option maxHeartbeats 4000000 in
set_option maxRecDepth 100000 in
theorem k6_reckonStep (l : Launch) (D : va_G) (b : Nat → Nat) (cA : ClassId) (u : Nat → Int32) (n m : Nat) (a : Nat → Nat → Int32) (k j : Nat) (hk : k < 60) (hj : a 7 k = nI j) (hj4 : j < 4) (hm : m ≤ 12) : Met l yX6_reckonStep wsX6_reckonStep ({ frames := 1, cells := 0, slots := 0, locals := 22 }) (rPc D (mW b cA u n m a) [(cA, .int)] [.ref (b 0), .int (nI k)]) (vp_Si (fun r => r = rStep (a 1) (a 2) (a 3) (a 4) (a 5) (a 6) m j (a 9 k) (a 10 k))) 0 0 (fun _ => False) := by
  refine r_head (C := RX6) (cc := cX6_reckonStep) (maxL := 6) (ret := (some .int)) [(0, .ref (b 0)), (1, .int (nI k))] (by decide) rfl rfl (Nat.le_of_ble_eq_true rfl) rfl ?_
  intro p e s mi below meth c hx hb hr hlk hml hown hts hP hK ls hl
  have hiX60 : ∀ w ∈ wsX60, w ∈ wsX6_reckonStep := fun w h => List.mem_cons_of_mem _ (List.mem_append_right _ h)
  have f0 := hts (.fieldLink RX6 28 "StaffHeadsModel" "staffOf" "[I") (List.mem_of_getElem? (i := 1) rfl)
  have f1 := hts (.fieldLink RX6 83 "StaffHeadsModel" "shifts" "I") (List.mem_of_getElem? (i := 3) rfl)
  have f2 := hts (.fieldLink RX6 37 "StaffHeadsModel" "numberOf" "[I") (List.mem_of_getElem? (i := 9) rfl)
  have f3 := hts (.fieldLink RX6 13 "StaffHeadsModel" "clefLine" "[I") (List.mem_of_getElem? (i := 10) rfl)
  have f4 := hts (.fieldLink RX6 16 "StaffHeadsModel" "shiftStaff" "[I") (List.mem_of_getElem? (i := 4) rfl)
  have f5 := hts (.fieldLink RX6 34 "StaffHeadsModel" "tickOf" "[I") (List.mem_of_getElem? (i := 5) rfl)
  have f6 := hts (.fieldLink RX6 19 "StaffHeadsModel" "shiftFrom" "[I") (List.mem_of_getElem? (i := 6) rfl)
  have f7 := hts (.fieldLink RX6 22 "StaffHeadsModel" "shiftTo" "[I") (List.mem_of_getElem? (i := 7) rfl)
  have f8 := hts (.fieldLink RX6 25 "StaffHeadsModel" "shiftBy" "[I") (List.mem_of_getElem? (i := 8) rfl)
  have f9 := hts (.fieldLink RX6 7 "StaffHeadsModel" "clefKind" "[I") (List.mem_of_getElem? (i := 2) rfl)
  refine lv_aload_n hx hb dX6_reckonStep_0 rfl (lv_at hl 0 rfl) ?_
  refine va_get (D := D) (ci := 6) (v := .ref (b 7)) (C := RX6) (T := TX6) (N := 23) hx hb hts hiX60 hown hK.1 hP 0 rfl rfl 10 (by decide) f0 (fun _ h9 => h9) rfl dX6_reckonStep_1 ?_
  refine lv_iload_n hx hb dX6_reckonStep_4 rfl (lv_at hl 1 rfl) ?_
  refine x_iald hx hb hK hP 7 0 rfl rfl (k := k) (by omega) (by decide) dX6_reckonStep_5 ?_
  refine x_tp (y := nI j) hj ?_
  refine lv_istore_n (lv' := [(2, .int (nI j)), (0, .ref (b 0)), (1, .int (nI k))]) hx hb dX6_reckonStep_6 rfl hl (by decide) rfl (fun ls hl => ?_)
  refine x_join 6 [(0, .ref (b 0)), (1, .int (nI k)), (2, .int (nI j))] 38 [.int (rClef (a 1 j))] ?_ (fun j_38 => ?_)
  · intro ls hl
    refine lv_istore_n (lv' := [(3, .int (rClef (a 1 j))), (0, .ref (b 0)), (1, .int (nI k)), (2, .int (nI j))]) hx hb dX6_reckonStep_38 rfl hl (by decide) rfl (fun ls hl => ?_)
    refine lv_iconst (v := 0) hx hb dX6_reckonStep_39 (by decide) ?_
    refine x_tp (y := rOct (a 3) (a 4) (a 5) (a 6) (nI j) (a 9 k) 0) rfl ?_
    refine lv_istore (lv' := [(4, .int (rOct (a 3) (a 4) (a 5) (a 6) (nI j) (a 9 k) 0)), (3, .int (rClef (a 1 j))), (0, .ref (b 0)), (1, .int (nI k)), (2, .int (nI j))]) hx hb dX6_reckonStep_40 hl (by decide) rfl (fun ls hl => ?_)
    refine lv_iconst (v := 0) hx hb dX6_reckonStep_42 (by decide) ?_
    refine x_tp (y := nI 0) nI_0.symm ?_
    refine lv_istore (lv' := [(5, .int (nI 0)), (4, .int (rOct (a 3) (a 4) (a 5) (a 6) (nI j) (a 9 k) 0)), (3, .int (rClef (a 1 j))), (0, .ref (b 0)), (1, .int (nI k)), (2, .int (nI j))]) hx hb dX6_reckonStep_43 hl (by decide) rfl (fun ls hl => ?_)
    refine lpR (G := fun ls => W p l e _ s mi _ below meth c _ _ _ _ _ (F0 mi 45 ls [])) 6 m (fun q (_ : Unit) => [(0, .ref (b 0)), (1, .int (nI k)), (2, .int (nI j)), (3, .int (rClef (a 1 j))), (4, .int (rOct (a 3) (a 4) (a 5) (a 6) (nI j) (a 9 k) q)), (5, .int (nI q))]) (fun _ _ => True) ?_ 0 () (Nat.zero_le _) trivial (lv_sub hl [3, 4, 5, 2, 1, 0] rfl)
    clear hl ls
    intro q gu hq hqI ls hl ihq
    refine lv_iload hx hb dX6_reckonStep_45 (lv_at hl 5 rfl) ?_
    refine lv_aload_n hx hb dX6_reckonStep_47 rfl (lv_at hl 0 rfl) ?_
    refine va_get (D := D) (ci := 6) (v := .int (nI m)) (C := RX6) (T := TX6) (N := 23) hx hb hts hiX60 hown hK.1 hP 0 rfl rfl 4 (by decide) f1 (fun _ h9 => h9) rfl dX6_reckonStep_48 ?_
    refine x_nge (tgt := 113) hx hb dX6_reckonStep_51 (by decide) (by omega) (by omega) (fun c_51 => ?_) (fun c_51 => ?_)
    · obtain rfl : m = q := by omega
      refine lv_aload_n hx hb dX6_reckonStep_113 rfl (lv_at hl 0 rfl) ?_
      refine va_get (D := D) (ci := 6) (v := .ref (b 10)) (C := RX6) (T := TX6) (N := 23) hx hb hts hiX60 hown hK.1 hP 0 rfl rfl 13 (by decide) f2 (fun _ h9 => h9) rfl dX6_reckonStep_114 ?_
      refine lv_iload_n hx hb dX6_reckonStep_117 rfl (lv_at hl 1 rfl) ?_
      refine x_iald hx hb hK hP 10 0 rfl rfl (k := k) (by omega) (by decide) dX6_reckonStep_118 ?_
      refine lv_iload_n hx hb dX6_reckonStep_119 rfl (lv_at hl 3 rfl) ?_
      refine lv_isub hx hb dX6_reckonStep_120 ?_
      refine lv_iconst (v := 2) hx hb dX6_reckonStep_121 (by decide) ?_
      refine lv_aload_n hx hb dX6_reckonStep_122 rfl (lv_at hl 0 rfl) ?_
      refine va_get (D := D) (ci := 6) (v := .ref (b 2)) (C := RX6) (T := TX6) (N := 23) hx hb hts hiX60 hown hK.1 hP 0 rfl rfl 3 (by decide) f3 (fun _ h9 => h9) rfl dX6_reckonStep_123 ?_
      refine lv_iload_n hx hb dX6_reckonStep_126 rfl (lv_at hl 2 rfl) ?_
      refine x_iald hx hb hK hP 2 0 rfl rfl (k := j) (by omega) (by decide) dX6_reckonStep_127 ?_
      refine lv_imul hx hb dX6_reckonStep_128 ?_
      refine lv_iadd hx hb dX6_reckonStep_129 ?_
      refine lv_iconst (v := 2) hx hb dX6_reckonStep_130 (by decide) ?_
      refine lv_isub hx hb dX6_reckonStep_131 ?_
      refine lv_bipush (v := 7) hx hb dX6_reckonStep_132 (by decide) ?_
      refine lv_iload hx hb dX6_reckonStep_134 (lv_at hl 4 rfl) ?_
      refine lv_imul hx hb dX6_reckonStep_136 ?_
      refine lv_isub hx hb dX6_reckonStep_137 ?_
      exact r_iret hx hb hr hlk (rfl) dX6_reckonStep_138
    · refine lv_iload hx hb dX6_reckonStep_54 (lv_at hl 4 rfl) ?_
      refine lv_aload_n hx hb dX6_reckonStep_56 rfl (lv_at hl 0 rfl) ?_
      refine va_get (D := D) (ci := 6) (v := .ref (b 3)) (C := RX6) (T := TX6) (N := 23) hx hb hts hiX60 hown hK.1 hP 0 rfl rfl 5 (by decide) f4 (fun _ h9 => h9) rfl dX6_reckonStep_57 ?_
      refine lv_iload hx hb dX6_reckonStep_60 (lv_at hl 5 rfl) ?_
      refine x_iald hx hb hK hP 3 0 rfl rfl (k := q) (by omega) (by decide) dX6_reckonStep_62 ?_
      refine lv_iload_n hx hb dX6_reckonStep_63 rfl (lv_at hl 2 rfl) ?_
      refine lv_icmp_ne (tgt := 103) hx hb dX6_reckonStep_64 (by decide) (fun c_64 => ?_) (fun c_64 => ?_)
      · refine lv_iconst (v := 0) hx hb dX6_reckonStep_103 (by decide) ?_
        refine lv_iadd hx hb dX6_reckonStep_104 ?_
        refine x_tp (y := rOct (a 3) (a 4) (a 5) (a 6) (nI j) (a 9 k) (q + 1)) (by rw [rOct, if_neg (fun h => c_64 h.1)]) ?_
        refine lv_istore (lv' := [(4, .int (rOct (a 3) (a 4) (a 5) (a 6) (nI j) (a 9 k) (q + 1))), (0, .ref (b 0)), (1, .int (nI k)), (2, .int (nI j)), (3, .int (rClef (a 1 j))), (5, .int (nI q))]) hx hb dX6_reckonStep_105 hl (by decide) rfl (fun ls hl => ?_)
        refine lv_iinc (v := nI (q + 1)) (lv' := [(5, .int (nI (q + 1))), (4, .int (rOct (a 3) (a 4) (a 5) (a 6) (nI j) (a 9 k) (q + 1))), (0, .ref (b 0)), (1, .int (nI k)), (2, .int (nI j)), (3, .int (rClef (a 1 j)))]) hx hb dX6_reckonStep_107 hl (k := 5) rfl (x_inc q) (by decide) rfl (fun ls hl => ?_)
        refine lv_goto (tgt := 45) hx hb dX6_reckonStep_110 (by decide) ?_
        exact ihq (by omega) () _ trivial (lv_sub hl [2, 3, 4, 5, 1, 0] rfl)
      · refine lv_aload_n hx hb dX6_reckonStep_67 rfl (lv_at hl 0 rfl) ?_
        refine va_get (D := D) (ci := 6) (v := .ref (b 9)) (C := RX6) (T := TX6) (N := 23) hx hb hts hiX60 hown hK.1 hP 0 rfl rfl 12 (by decide) f5 (fun _ h9 => h9) rfl dX6_reckonStep_68 ?_
        refine lv_iload_n hx hb dX6_reckonStep_71 rfl (lv_at hl 1 rfl) ?_
        refine x_iald hx hb hK hP 9 0 rfl rfl (k := k) (by omega) (by decide) dX6_reckonStep_72 ?_
        refine lv_aload_n hx hb dX6_reckonStep_73 rfl (lv_at hl 0 rfl) ?_
        refine va_get (D := D) (ci := 6) (v := .ref (b 4)) (C := RX6) (T := TX6) (N := 23) hx hb hts hiX60 hown hK.1 hP 0 rfl rfl 6 (by decide) f6 (fun _ h9 => h9) rfl dX6_reckonStep_74 ?_
        refine lv_iload hx hb dX6_reckonStep_77 (lv_at hl 5 rfl) ?_
        refine x_iald hx hb hK hP 4 0 rfl rfl (k := q) (by omega) (by decide) dX6_reckonStep_79 ?_
        refine lv_aload_n hx hb dX6_reckonStep_80 rfl (lv_at hl 0 rfl) ?_
        refine va_get (D := D) (ci := 6) (v := .ref (b 5)) (C := RX6) (T := TX6) (N := 23) hx hb hts hiX60 hown hK.1 hP 0 rfl rfl 7 (by decide) f7 (fun _ h9 => h9) rfl dX6_reckonStep_81 ?_
        refine lv_iload hx hb dX6_reckonStep_84 (lv_at hl 5 rfl) ?_
        refine x_iald hx hb hK hP 5 0 rfl rfl (k := q) (by omega) (by decide) dX6_reckonStep_86 ?_
        refine rcSi (As := [.int (a 9 k), .int (a 4 q), .int (a 5 q)]) (rest := [.int (rOct (a 3) (a 4) (a 5) (a 6) (nI j) (a 9 k) q)]) ⟨hx, hb, hml, hown, hts⟩ (k6_in l (a 9 k) (a 4 q) (a 5 q)) (va_cwS 3 hts gX6_reckonStep_X6_in rfl rfl rfl (by decide +kernel) ⟨Nat.le_of_ble_eq_true rfl, Nat.le_of_ble_eq_true rfl⟩) rfl hl.1 rfl (Nat.le_of_ble_eq_true rfl) dX6_reckonStep_87 ⟨Nat.zero_le _, Nat.zero_le _⟩ ?_
        refine x_ifeq (tgt := 103) hx hb dX6_reckonStep_90 (by decide) (fun c_90 => ?_) (fun c_90 => ?_)
        · refine lv_iconst (v := 0) hx hb dX6_reckonStep_103 (by decide) ?_
          refine lv_iadd hx hb dX6_reckonStep_104 ?_
          refine x_tp (y := rOct (a 3) (a 4) (a 5) (a 6) (nI j) (a 9 k) (q + 1)) (by rw [rOct, if_neg (fun h => c_90 h.2)]) ?_
          refine lv_istore (lv' := [(4, .int (rOct (a 3) (a 4) (a 5) (a 6) (nI j) (a 9 k) (q + 1))), (0, .ref (b 0)), (1, .int (nI k)), (2, .int (nI j)), (3, .int (rClef (a 1 j))), (5, .int (nI q))]) hx hb dX6_reckonStep_105 hl (by decide) rfl (fun ls hl => ?_)
          refine lv_iinc (v := nI (q + 1)) (lv' := [(5, .int (nI (q + 1))), (4, .int (rOct (a 3) (a 4) (a 5) (a 6) (nI j) (a 9 k) (q + 1))), (0, .ref (b 0)), (1, .int (nI k)), (2, .int (nI j)), (3, .int (rClef (a 1 j)))]) hx hb dX6_reckonStep_107 hl (k := 5) rfl (x_inc q) (by decide) rfl (fun ls hl => ?_)
          refine lv_goto (tgt := 45) hx hb dX6_reckonStep_110 (by decide) ?_
          exact ihq (by omega) () _ trivial (lv_sub hl [2, 3, 4, 5, 1, 0] rfl)
        · refine lv_aload_n hx hb dX6_reckonStep_93 rfl (lv_at hl 0 rfl) ?_
          refine va_get (D := D) (ci := 6) (v := .ref (b 6)) (C := RX6) (T := TX6) (N := 23) hx hb hts hiX60 hown hK.1 hP 0 rfl rfl 8 (by decide) f8 (fun _ h9 => h9) rfl dX6_reckonStep_94 ?_
          refine lv_iload hx hb dX6_reckonStep_97 (lv_at hl 5 rfl) ?_
          refine x_iald hx hb hK hP 6 0 rfl rfl (k := q) (by omega) (by decide) dX6_reckonStep_99 ?_
          refine lv_goto (tgt := 104) hx hb dX6_reckonStep_100 (by decide) ?_
          refine lv_iadd hx hb dX6_reckonStep_104 ?_
          refine x_tp (y := rOct (a 3) (a 4) (a 5) (a 6) (nI j) (a 9 k) (q + 1)) (by rw [rOct, if_pos ⟨c_64, c_90⟩]) ?_
          refine lv_istore (lv' := [(4, .int (rOct (a 3) (a 4) (a 5) (a 6) (nI j) (a 9 k) (q + 1))), (0, .ref (b 0)), (1, .int (nI k)), (2, .int (nI j)), (3, .int (rClef (a 1 j))), (5, .int (nI q))]) hx hb dX6_reckonStep_105 hl (by decide) rfl (fun ls hl => ?_)
          refine lv_iinc (v := nI (q + 1)) (lv' := [(5, .int (nI (q + 1))), (4, .int (rOct (a 3) (a 4) (a 5) (a 6) (nI j) (a 9 k) (q + 1))), (0, .ref (b 0)), (1, .int (nI k)), (2, .int (nI j)), (3, .int (rClef (a 1 j)))]) hx hb dX6_reckonStep_107 hl (k := 5) rfl (x_inc q) (by decide) rfl (fun ls hl => ?_)
          refine lv_goto (tgt := 45) hx hb dX6_reckonStep_110 (by decide) ?_
          exact ihq (by omega) () _ trivial (lv_sub hl [2, 3, 4, 5, 1, 0] rfl)
  refine lv_aload_n hx hb dX6_reckonStep_7 rfl (lv_at hl 1 rfl) ?_
  refine va_get (D := D) (ci := 6) (v := .ref (b 1)) (C := RX6) (T := TX6) (N := 23) hx hb hts hiX60 hown hK.1 hP 0 rfl rfl 2 (by decide) f9 (fun _ h9 => h9) rfl dX6_reckonStep_8 ?_
  refine lv_iload_n hx hb dX6_reckonStep_11 rfl (lv_at hl 0 rfl) ?_
  refine x_iald hx hb hK hP 1 0 rfl rfl (k := j) (by omega) (by decide) dX6_reckonStep_12 ?_
  refine lv_if_ne (tgt := 21) hx hb dX6_reckonStep_13 (by decide) (fun c_13 => ?_) (fun c_13 => ?_)
  · refine lv_aload_n hx hb dX6_reckonStep_21 rfl (lv_at hl 1 rfl) ?_
    refine va_get (D := D) (ci := 6) (v := .ref (b 1)) (C := RX6) (T := TX6) (N := 23) hx hb hts hiX60 hown hK.1 hP 0 rfl rfl 2 (by decide) f9 (fun _ h9 => h9) rfl dX6_reckonStep_22 ?_
    refine lv_iload_n hx hb dX6_reckonStep_25 rfl (lv_at hl 0 rfl) ?_
    refine x_iald hx hb hK hP 1 0 rfl rfl (k := j) (by omega) (by decide) dX6_reckonStep_26 ?_
    refine lv_iconst (v := 1) hx hb dX6_reckonStep_27 (by decide) ?_
    refine lv_icmp_ne (tgt := 36) hx hb dX6_reckonStep_28 (by decide) (fun c_28 => ?_) (fun c_28 => ?_)
    · refine lv_bipush (v := 24) hx hb dX6_reckonStep_36 (by decide) ?_
      refine x_tp (y := rClef (a 1 j)) (by simp [rClef, c_13, c_28]) ?_
      exact j_38 _ (lv_sub hl [1, 2, 0] rfl)
    · refine lv_bipush (v := 28) hx hb dX6_reckonStep_31 (by decide) ?_
      refine lv_goto (tgt := 38) hx hb dX6_reckonStep_33 (by decide) ?_
      refine x_tp (y := rClef (a 1 j)) (by simp [rClef, c_13, c_28]) ?_
      exact j_38 _ (lv_sub hl [1, 2, 0] rfl)
  · refine lv_bipush (v := 32) hx hb dX6_reckonStep_16 (by decide) ?_
    refine lv_goto (tgt := 38) hx hb dX6_reckonStep_18 (by decide) ?_
    refine x_tp (y := rClef (a 1 j)) (by simp [rClef, c_13]) ?_
    exact j_38 _ (lv_sub hl [1, 2, 0] rfl)

set_option maxHeartbeats 4000000 in
set_option maxRecDepth 100000 in
theorem k6_isHidden (l : Launch) (D : va_G) (b : Nat → Nat) (cA : ClassId) (u : Nat → Int32) (n m : Nat) (a : Nat → Nat → Int32) (p1 : Int32) (hn : n ≤ 60) : Met l yX6_isHidden wsX6_isHidden ({ frames := 0, cells := 0, slots := 0, locals := 0 }) (rPc D (mW b cA u n m a) [(cA, .int)] [.ref (b 0), .int p1]) (vp_Si (fun r => r = bv (rHidA (a 7) (u 4) p1 n))) 0 0 (fun _ => False) := by
  refine r_head (C := RX6) (cc := cX6_isHidden) (maxL := 4) (ret := (some .boolean)) [(0, .ref (b 0)), (1, .int p1)] (by decide) rfl rfl (Nat.le_of_ble_eq_true rfl) rfl ?_
  intro p e s mi below meth c hx hb hr hlk hml hown hts hP hK ls hl
  have hiX60 : ∀ w ∈ wsX60, w ∈ wsX6_isHidden := fun w h => List.mem_cons_of_mem _ (List.mem_append_right _ h)
  have f0 := hts (.fieldLink RX6 76 "StaffHeadsModel" "notes" "I") (List.mem_of_getElem? (i := 2) rfl)
  have f1 := hts (.fieldLink RX6 28 "StaffHeadsModel" "staffOf" "[I") (List.mem_of_getElem? (i := 3) rfl)
  have f2 := hts (.fieldLink RX6 151 "StaffHeadsModel" "hiding" "Z") (List.mem_of_getElem? (i := 1) rfl)
  refine x_join 4 [(0, .ref (b 0)), (1, .int p1)] 16 [.int (bv ((¬ u 4 = 0 ∧ 0 < p1) ∧ ∀ q, q < 0 → ¬ a 7 q = p1))] ?_ (fun j_16 => ?_)
  · intro ls hl
    refine lv_istore_n (lv' := [(2, .int (bv ((¬ u 4 = 0 ∧ 0 < p1) ∧ ∀ q, q < 0 → ¬ a 7 q = p1))), (0, .ref (b 0)), (1, .int p1)]) hx hb dX6_isHidden_16 rfl hl (by decide) rfl (fun ls hl => ?_)
    refine lv_iconst (v := 0) hx hb dX6_isHidden_17 (by decide) ?_
    refine x_tp (y := nI 0) nI_0.symm ?_
    refine lv_istore_n (lv' := [(3, .int (nI 0)), (2, .int (bv ((¬ u 4 = 0 ∧ 0 < p1) ∧ ∀ q, q < 0 → ¬ a 7 q = p1))), (0, .ref (b 0)), (1, .int p1)]) hx hb dX6_isHidden_18 rfl hl (by decide) rfl (fun ls hl => ?_)
    refine lpR (G := fun ls => W p l e _ s mi _ below meth c _ _ _ _ _ (F0 mi 19 ls [])) 4 n (fun k (_ : Unit) => [(0, .ref (b 0)), (1, .int p1), (2, .int (bv ((¬ u 4 = 0 ∧ 0 < p1) ∧ ∀ q, q < k → ¬ a 7 q = p1))), (3, .int (nI k))]) (fun _ _ => True) ?_ 0 () (Nat.zero_le _) trivial (lv_sub hl [2, 3, 1, 0] rfl)
    clear hl ls
    intro k gu hk hkI ls hl ihk
    refine lv_iload_n hx hb dX6_isHidden_19 rfl (lv_at hl 3 rfl) ?_
    refine lv_aload_n hx hb dX6_isHidden_20 rfl (lv_at hl 0 rfl) ?_
    refine va_get (D := D) (ci := 6) (v := .int (nI n)) (C := RX6) (T := TX6) (N := 23) hx hb hts hiX60 hown hK.1 hP 0 rfl rfl 9 (by decide) f0 (fun _ h9 => h9) rfl dX6_isHidden_21 ?_
    refine x_nge (tgt := 53) hx hb dX6_isHidden_24 (by decide) (by omega) (by omega) (fun c_24 => ?_) (fun c_24 => ?_)
    · obtain rfl : n = k := by omega
      refine lv_iload_n hx hb dX6_isHidden_53 rfl (lv_at hl 2 rfl) ?_
      exact r_zret hx hb hr hlk bv_nar (rfl) dX6_isHidden_54
    · refine lv_iload_n hx hb dX6_isHidden_27 rfl (lv_at hl 2 rfl) ?_
      refine x_ifeq (tgt := 45) hx hb dX6_isHidden_28 (by decide) (fun c_28 => ?_) (fun c_28 => ?_)
      · refine lv_iconst (v := 0) hx hb dX6_isHidden_45 (by decide) ?_
        refine x_tp (y := bv ((¬ u 4 = 0 ∧ 0 < p1) ∧ ∀ q, q < k + 1 → ¬ a 7 q = p1)) (bv_f (fun h => c_28 ⟨h.1, fun q hq => h.2 q (Nat.lt_succ_of_lt hq)⟩)).symm ?_
        refine lv_istore_n (lv' := [(2, .int (bv ((¬ u 4 = 0 ∧ 0 < p1) ∧ ∀ q, q < k + 1 → ¬ a 7 q = p1))), (0, .ref (b 0)), (1, .int p1), (3, .int (nI k))]) hx hb dX6_isHidden_46 rfl hl (by decide) rfl (fun ls hl => ?_)
        refine lv_iinc (v := nI (k + 1)) (lv' := [(3, .int (nI (k + 1))), (2, .int (bv ((¬ u 4 = 0 ∧ 0 < p1) ∧ ∀ q, q < k + 1 → ¬ a 7 q = p1))), (0, .ref (b 0)), (1, .int p1)]) hx hb dX6_isHidden_47 hl (k := 3) rfl (x_inc k) (by decide) rfl (fun ls hl => ?_)
        refine lv_goto (tgt := 19) hx hb dX6_isHidden_50 (by decide) ?_
        exact ihk (by omega) () _ trivial (lv_sub hl [2, 3, 1, 0] rfl)
      · refine lv_aload_n hx hb dX6_isHidden_31 rfl (lv_at hl 0 rfl) ?_
        refine va_get (D := D) (ci := 6) (v := .ref (b 7)) (C := RX6) (T := TX6) (N := 23) hx hb hts hiX60 hown hK.1 hP 0 rfl rfl 10 (by decide) f1 (fun _ h9 => h9) rfl dX6_isHidden_32 ?_
        refine lv_iload_n hx hb dX6_isHidden_35 rfl (lv_at hl 3 rfl) ?_
        refine x_iald hx hb hK hP 7 0 rfl rfl (k := k) (by omega) (by decide) dX6_isHidden_36 ?_
        refine lv_iload_n hx hb dX6_isHidden_37 rfl (lv_at hl 1 rfl) ?_
        refine lv_icmp_eq (tgt := 45) hx hb dX6_isHidden_38 (by decide) (fun c_38 => ?_) (fun c_38 => ?_)
        · refine lv_iconst (v := 0) hx hb dX6_isHidden_45 (by decide) ?_
          refine x_tp (y := bv ((¬ u 4 = 0 ∧ 0 < p1) ∧ ∀ q, q < k + 1 → ¬ a 7 q = p1)) (bv_f (fun h => h.2 k (Nat.lt_succ_self k) c_38)).symm ?_
          refine lv_istore_n (lv' := [(2, .int (bv ((¬ u 4 = 0 ∧ 0 < p1) ∧ ∀ q, q < k + 1 → ¬ a 7 q = p1))), (0, .ref (b 0)), (1, .int p1), (3, .int (nI k))]) hx hb dX6_isHidden_46 rfl hl (by decide) rfl (fun ls hl => ?_)
          refine lv_iinc (v := nI (k + 1)) (lv' := [(3, .int (nI (k + 1))), (2, .int (bv ((¬ u 4 = 0 ∧ 0 < p1) ∧ ∀ q, q < k + 1 → ¬ a 7 q = p1))), (0, .ref (b 0)), (1, .int p1)]) hx hb dX6_isHidden_47 hl (k := 3) rfl (x_inc k) (by decide) rfl (fun ls hl => ?_)
          refine lv_goto (tgt := 19) hx hb dX6_isHidden_50 (by decide) ?_
          exact ihk (by omega) () _ trivial (lv_sub hl [2, 3, 1, 0] rfl)
        · refine lv_iconst (v := 1) hx hb dX6_isHidden_41 (by decide) ?_
          refine lv_goto (tgt := 46) hx hb dX6_isHidden_42 (by decide) ?_
          refine x_tp (y := bv ((¬ u 4 = 0 ∧ 0 < p1) ∧ ∀ q, q < k + 1 → ¬ a 7 q = p1)) (bv_t ⟨c_28.1, lt_s c_28.2 c_38⟩).symm ?_
          refine lv_istore_n (lv' := [(2, .int (bv ((¬ u 4 = 0 ∧ 0 < p1) ∧ ∀ q, q < k + 1 → ¬ a 7 q = p1))), (0, .ref (b 0)), (1, .int p1), (3, .int (nI k))]) hx hb dX6_isHidden_46 rfl hl (by decide) rfl (fun ls hl => ?_)
          refine lv_iinc (v := nI (k + 1)) (lv' := [(3, .int (nI (k + 1))), (2, .int (bv ((¬ u 4 = 0 ∧ 0 < p1) ∧ ∀ q, q < k + 1 → ¬ a 7 q = p1))), (0, .ref (b 0)), (1, .int p1)]) hx hb dX6_isHidden_47 hl (k := 3) rfl (x_inc k) (by decide) rfl (fun ls hl => ?_)
          refine lv_goto (tgt := 19) hx hb dX6_isHidden_50 (by decide) ?_
          exact ihk (by omega) () _ trivial (lv_sub hl [2, 3, 1, 0] rfl)
  refine lv_aload_n hx hb dX6_isHidden_0 rfl (lv_at hl 0 rfl) ?_
  refine va_get (D := D) (ci := 6) (v := .int (u 4)) (C := RX6) (T := TX6) (N := 23) hx hb hts hiX60 hown hK.1 hP 0 rfl rfl 18 (by decide) f2 (fun _ h9 => h9) rfl dX6_isHidden_1 ?_
  refine lv_if_eq (tgt := 15) hx hb dX6_isHidden_4 (by decide) (fun c_4 => ?_) (fun c_4 => ?_)
  · refine lv_iconst (v := 0) hx hb dX6_isHidden_15 (by decide) ?_
    refine x_tp (y := bv ((¬ u 4 = 0 ∧ 0 < p1) ∧ ∀ q, q < 0 → ¬ a 7 q = p1)) (bv_f (by simp [c_4])).symm ?_
    exact j_16 _ (lv_sub hl [0, 1] rfl)
  · refine lv_iload_n hx hb dX6_isHidden_7 rfl (lv_at hl 1 rfl) ?_
    refine x_cle (tgt := 15) hx hb dX6_isHidden_8 (by decide) (fun c_8 => ?_) (fun c_8 => ?_)
    · refine lv_iconst (v := 0) hx hb dX6_isHidden_15 (by decide) ?_
      refine x_tp (y := bv ((¬ u 4 = 0 ∧ 0 < p1) ∧ ∀ q, q < 0 → ¬ a 7 q = p1)) (bv_f (by simp [c_4, c_8])).symm ?_
      exact j_16 _ (lv_sub hl [0, 1] rfl)
    · refine lv_iconst (v := 1) hx hb dX6_isHidden_11 (by decide) ?_
      refine lv_goto (tgt := 16) hx hb dX6_isHidden_12 (by decide) ?_
      refine x_tp (y := bv ((¬ u 4 = 0 ∧ 0 < p1) ∧ ∀ q, q < 0 → ¬ a 7 q = p1)) (bv_t ⟨⟨c_4, c_8⟩, fun q h => absurd h (Nat.not_lt_zero q)⟩).symm ?_
      exact j_16 _ (lv_sub hl [0, 1] rfl)

set_option maxHeartbeats 4000000 in
set_option maxRecDepth 100000 in
theorem k6_isFirstAt (l : Launch) (D : va_G) (b : Nat → Nat) (cA : ClassId) (u : Nat → Int32) (n m : Nat) (a : Nat → Nat → Int32) (k : Nat) (p1 p2 : Int32) (hk : k < 60) : Met l yX6_isFirstAt wsX6_isFirstAt ({ frames := 0, cells := 0, slots := 0, locals := 0 }) (rPc D (mW b cA u n m a) [(cA, .int)] [.ref (b 0), .int (nI k), .int p1, .int p2]) (vp_Si (fun r => r = bv (rFirst (a 7) (a 9) k p1 p2))) 0 0 (fun _ => False) := by
  refine r_head (C := RX6) (cc := cX6_isFirstAt) (maxL := 5) (ret := (some .boolean)) [(0, .ref (b 0)), (1, .int (nI k)), (2, .int p1), (3, .int p2)] (by decide) rfl rfl (Nat.le_of_ble_eq_true rfl) rfl ?_
  intro p e s mi below meth c hx hb hr hlk hml hown hts hP hK ls hl
  have hiX60 : ∀ w ∈ wsX60, w ∈ wsX6_isFirstAt := fun w h => List.mem_cons_of_mem _ (List.mem_append_right _ h)
  have f0 := hts (.fieldLink RX6 34 "StaffHeadsModel" "tickOf" "[I") (List.mem_of_getElem? (i := 1) rfl)
  have f1 := hts (.fieldLink RX6 28 "StaffHeadsModel" "staffOf" "[I") (List.mem_of_getElem? (i := 2) rfl)
  refine lv_iconst (v := 0) hx hb dX6_isFirstAt_0 (by decide) ?_
  refine x_tp (y := nI 0) nI_0.symm ?_
  refine lv_istore (lv' := [(4, .int (nI 0)), (0, .ref (b 0)), (1, .int (nI k)), (2, .int p1), (3, .int p2)]) hx hb dX6_isFirstAt_1 hl (by decide) rfl (fun ls hl => ?_)
  refine lpR (G := fun ls => W p l e _ s mi _ below meth c _ _ _ _ _ (F0 mi 3 ls [])) 5 k (fun q (_ : Unit) => [(0, .ref (b 0)), (1, .int (nI k)), (2, .int p1), (3, .int p2), (4, .int (nI q))]) (fun q _ => ∀ z, z < q → ¬ (a 9 z = a 9 k ∧ (a 7 z = p1 ∨ a 7 z = p2))) ?_ 0 () (Nat.zero_le _) (fun z h => absurd h (Nat.not_lt_zero z)) (lv_sub hl [1, 2, 3, 4, 0] rfl)
  clear hl ls
  intro q gu hq hqI ls hl ihq
  refine lv_iload hx hb dX6_isFirstAt_3 (lv_at hl 4 rfl) ?_
  refine lv_iload_n hx hb dX6_isFirstAt_5 rfl (lv_at hl 1 rfl) ?_
  refine x_nge (tgt := 55) hx hb dX6_isFirstAt_6 (by decide) (by omega) (by omega) (fun c_6 => ?_) (fun c_6 => ?_)
  · obtain rfl : k = q := by omega
    refine lv_iconst (v := 1) hx hb dX6_isFirstAt_55 (by decide) ?_
    exact r_zret hx hb hr hlk rfl ((bv_t hqI).symm) dX6_isFirstAt_56
  · refine lv_aload_n hx hb dX6_isFirstAt_9 rfl (lv_at hl 0 rfl) ?_
    refine va_get (D := D) (ci := 6) (v := .ref (b 9)) (C := RX6) (T := TX6) (N := 23) hx hb hts hiX60 hown hK.1 hP 0 rfl rfl 12 (by decide) f0 (fun _ h9 => h9) rfl dX6_isFirstAt_10 ?_
    refine lv_iload hx hb dX6_isFirstAt_13 (lv_at hl 4 rfl) ?_
    refine x_iald hx hb hK hP 9 0 rfl rfl (k := q) (by omega) (by decide) dX6_isFirstAt_15 ?_
    refine lv_aload_n hx hb dX6_isFirstAt_16 rfl (lv_at hl 0 rfl) ?_
    refine va_get (D := D) (ci := 6) (v := .ref (b 9)) (C := RX6) (T := TX6) (N := 23) hx hb hts hiX60 hown hK.1 hP 0 rfl rfl 12 (by decide) f0 (fun _ h9 => h9) rfl dX6_isFirstAt_17 ?_
    refine lv_iload_n hx hb dX6_isFirstAt_20 rfl (lv_at hl 1 rfl) ?_
    refine x_iald hx hb hK hP 9 0 rfl rfl (k := k) (by omega) (by decide) dX6_isFirstAt_21 ?_
    refine lv_icmp_ne (tgt := 49) hx hb dX6_isFirstAt_22 (by decide) (fun c_22 => ?_) (fun c_22 => ?_)
    · refine lv_iinc (v := nI (q + 1)) (lv' := [(4, .int (nI (q + 1))), (0, .ref (b 0)), (1, .int (nI k)), (2, .int p1), (3, .int p2)]) hx hb dX6_isFirstAt_49 hl (k := 4) rfl (x_inc q) (by decide) rfl (fun ls hl => ?_)
      refine lv_goto (tgt := 3) hx hb dX6_isFirstAt_52 (by decide) ?_
      exact ihq (by omega) () _ (lt_s hqI (by simp [c_22])) (lv_sub hl [1, 2, 3, 4, 0] rfl)
    · refine lv_aload_n hx hb dX6_isFirstAt_25 rfl (lv_at hl 0 rfl) ?_
      refine va_get (D := D) (ci := 6) (v := .ref (b 7)) (C := RX6) (T := TX6) (N := 23) hx hb hts hiX60 hown hK.1 hP 0 rfl rfl 10 (by decide) f1 (fun _ h9 => h9) rfl dX6_isFirstAt_26 ?_
      refine lv_iload hx hb dX6_isFirstAt_29 (lv_at hl 4 rfl) ?_
      refine x_iald hx hb hK hP 7 0 rfl rfl (k := q) (by omega) (by decide) dX6_isFirstAt_31 ?_
      refine lv_iload_n hx hb dX6_isFirstAt_32 rfl (lv_at hl 2 rfl) ?_
      refine lv_icmp_eq (tgt := 47) hx hb dX6_isFirstAt_33 (by decide) (fun c_33 => ?_) (fun c_33 => ?_)
      · refine lv_iconst (v := 0) hx hb dX6_isFirstAt_47 (by decide) ?_
        exact r_zret hx hb hr hlk rfl ((bv_f (fun h => h q (by omega) (by simp [c_22, c_33]))).symm) dX6_isFirstAt_48
      · refine lv_aload_n hx hb dX6_isFirstAt_36 rfl (lv_at hl 0 rfl) ?_
        refine va_get (D := D) (ci := 6) (v := .ref (b 7)) (C := RX6) (T := TX6) (N := 23) hx hb hts hiX60 hown hK.1 hP 0 rfl rfl 10 (by decide) f1 (fun _ h9 => h9) rfl dX6_isFirstAt_37 ?_
        refine lv_iload hx hb dX6_isFirstAt_40 (lv_at hl 4 rfl) ?_
        refine x_iald hx hb hK hP 7 0 rfl rfl (k := q) (by omega) (by decide) dX6_isFirstAt_42 ?_
        refine lv_iload_n hx hb dX6_isFirstAt_43 rfl (lv_at hl 3 rfl) ?_
        refine lv_icmp_ne (tgt := 49) hx hb dX6_isFirstAt_44 (by decide) (fun c_44 => ?_) (fun c_44 => ?_)
        · refine lv_iinc (v := nI (q + 1)) (lv' := [(4, .int (nI (q + 1))), (0, .ref (b 0)), (1, .int (nI k)), (2, .int p1), (3, .int p2)]) hx hb dX6_isFirstAt_49 hl (k := 4) rfl (x_inc q) (by decide) rfl (fun ls hl => ?_)
          refine lv_goto (tgt := 3) hx hb dX6_isFirstAt_52 (by decide) ?_
          exact ihq (by omega) () _ (lt_s hqI (by simp [c_22, c_33, c_44])) (lv_sub hl [1, 2, 3, 4, 0] rfl)
        · refine lv_iconst (v := 0) hx hb dX6_isFirstAt_47 (by decide) ?_
          exact r_zret hx hb hr hlk rfl ((bv_f (fun h => h q (by omega) (by simp [c_22, c_33, c_44]))).symm) dX6_isFirstAt_48

set_option maxHeartbeats 4000000 in
set_option maxRecDepth 100000 in
theorem k6_high (l : Launch) (D : va_G) (b : Nat → Nat) (cA : ClassId) (u : Nat → Int32) (n m : Nat) (a : Nat → Nat → Int32) (p1 p2 : Int32) (hn : n ≤ 60) : Met l yX6_high wsX6_high ({ frames := 5, cells := 0, slots := 0, locals := 122 }) (rPc D (mW b cA u n m a) [(cA, .int)] [.ref (b 0), .int p1, .int p2]) (vp_Si (fun r => r = rHigh (a 7) (a 8) (a 9) (a 13) (a 12) n p1 p2 n)) 0 0 (fun _ => False) := by
  refine r_head (C := RX6) (cc := cX6_high) (maxL := 7) (ret := (some .int)) [(0, .ref (b 0)), (1, .int p1), (2, .int p2)] (by decide) rfl rfl (Nat.le_of_ble_eq_true rfl) rfl ?_
  intro p e s mi below meth c hx hb hr hlk hml hown hts hP hK ls hl
  have hiX60 : ∀ w ∈ wsX60, w ∈ wsX6_high := fun w h => List.mem_cons_of_mem _ (List.mem_append_right _ h)
  have f0 := hts (.fieldLink RX6 76 "StaffHeadsModel" "notes" "I") (List.mem_of_getElem? (i := 1) rfl)
  have f1 := hts (.fieldLink RX6 43 "StaffHeadsModel" "headOf" "[I") (List.mem_of_getElem? (i := 2) rfl)
  have f2 := hts (.fieldLink RX6 31 "StaffHeadsModel" "voiceOf" "[I") (List.mem_of_getElem? (i := 3) rfl)
  refine lv_bipush (v := 8) hx hb dX6_high_0 (by decide) ?_
  refine x_tp (y := rHigh (a 7) (a 8) (a 9) (a 13) (a 12) n p1 p2 0) rfl ?_
  refine lv_istore_n (lv' := [(3, .int (rHigh (a 7) (a 8) (a 9) (a 13) (a 12) n p1 p2 0)), (0, .ref (b 0)), (1, .int p1), (2, .int p2)]) hx hb dX6_high_2 rfl hl (by decide) rfl (fun ls hl => ?_)
  refine lv_iconst (v := 0) hx hb dX6_high_3 (by decide) ?_
  refine x_tp (y := nI 0) nI_0.symm ?_
  refine lv_istore (lv' := [(4, .int (nI 0)), (3, .int (rHigh (a 7) (a 8) (a 9) (a 13) (a 12) n p1 p2 0)), (0, .ref (b 0)), (1, .int p1), (2, .int p2)]) hx hb dX6_high_4 hl (by decide) rfl (fun ls hl => ?_)
  refine lpR (G := fun ls => W p l e _ s mi _ below meth c _ _ _ _ _ (F0 mi 6 ls [])) 7 n (fun k (_ : Unit) => [(0, .ref (b 0)), (1, .int p1), (2, .int p2), (3, .int (rHigh (a 7) (a 8) (a 9) (a 13) (a 12) n p1 p2 k)), (4, .int (nI k))]) (fun _ _ => True) ?_ 0 () (Nat.zero_le _) trivial (lv_sub hl [2, 3, 4, 1, 0] rfl)
  clear hl ls
  intro k gu hk hkI ls hl ihk
  refine lv_iload hx hb dX6_high_6 (lv_at hl 4 rfl) ?_
  refine lv_aload_n hx hb dX6_high_8 rfl (lv_at hl 0 rfl) ?_
  refine va_get (D := D) (ci := 6) (v := .int (nI n)) (C := RX6) (T := TX6) (N := 23) hx hb hts hiX60 hown hK.1 hP 0 rfl rfl 9 (by decide) f0 (fun _ h9 => h9) rfl dX6_high_9 ?_
  refine x_nge (tgt := 105) hx hb dX6_high_12 (by decide) (by omega) (by omega) (fun c_12 => ?_) (fun c_12 => ?_)
  · obtain rfl : n = k := by omega
    refine lv_iload_n hx hb dX6_high_105 rfl (lv_at hl 3 rfl) ?_
    exact r_iret hx hb hr hlk (rfl) dX6_high_106
  · refine lv_aload_n hx hb dX6_high_15 rfl (lv_at hl 0 rfl) ?_
    refine lv_iload hx hb dX6_high_16 (lv_at hl 4 rfl) ?_
    refine lv_iload_n hx hb dX6_high_18 rfl (lv_at hl 1 rfl) ?_
    refine lv_iload_n hx hb dX6_high_19 rfl (lv_at hl 2 rfl) ?_
    refine rcVi (As := [.int (nI k), .int p1, .int p2]) (rest := []) ⟨hx, hb, hml, hown, hts⟩ (k6_isAt l D b cA u n m a k p1 p2 (by omega)) (cwV 3 hts gX6_high_X6_isAt rfl rfl rfl (by decide +kernel) ⟨Nat.le_of_ble_eq_true rfl, Nat.le_of_ble_eq_true rfl⟩) (va_recv hK.1 hP (ci := 6) (q0 := 0) rfl rfl) hP hK rfl hl.1 rfl (Nat.le_of_ble_eq_true rfl) dX6_high_20 ⟨Nat.zero_le _, Nat.zero_le _⟩ ?_
    refine x_ifeq (tgt := 99) hx hb dX6_high_23 (by decide) (fun c_23 => ?_) (fun c_23 => ?_)
    · have hl := lv_cast (l' := [(0, .ref (b 0)), (1, .int p1), (2, .int p2), (3, .int (rHigh (a 7) (a 8) (a 9) (a 13) (a 12) n p1 p2 (k + 1))), (4, .int (nI k))]) hl (by rw [show rHigh (a 7) (a 8) (a 9) (a 13) (a 12) n p1 p2 k = rHigh (a 7) (a 8) (a 9) (a 13) (a 12) n p1 p2 (k + 1) from (rHigh_n c_23).symm])
      refine lv_iinc (v := nI (k + 1)) (lv' := [(4, .int (nI (k + 1))), (0, .ref (b 0)), (1, .int p1), (2, .int p2), (3, .int (rHigh (a 7) (a 8) (a 9) (a 13) (a 12) n p1 p2 (k + 1)))]) hx hb dX6_high_99 hl (k := 4) rfl (x_inc k) (by decide) rfl (fun ls hl => ?_)
      refine lv_goto (tgt := 6) hx hb dX6_high_102 (by decide) ?_
      exact ihk (by omega) () _ trivial (lv_sub hl [1, 2, 3, 4, 0] rfl)
    · refine lv_aload_n hx hb dX6_high_26 rfl (lv_at hl 0 rfl) ?_
      refine lv_iload hx hb dX6_high_27 (lv_at hl 4 rfl) ?_
      refine rcVi (As := [.int (nI k)]) (rest := []) ⟨hx, hb, hml, hown, hts⟩ (k6_step l D b cA u n m a k (by omega)) (cwV 1 hts gX6_high_X6_step rfl rfl rfl (by decide +kernel) ⟨Nat.le_of_ble_eq_true rfl, Nat.le_of_ble_eq_true rfl⟩) (va_recv hK.1 hP (ci := 6) (q0 := 0) rfl rfl) hP hK rfl hl.1 rfl (Nat.le_of_ble_eq_true rfl) dX6_high_29 ⟨Nat.zero_le _, Nat.zero_le _⟩ ?_
      refine lv_istore (lv' := [(5, .int (a 13 k)), (0, .ref (b 0)), (1, .int p1), (2, .int p2), (3, .int (rHigh (a 7) (a 8) (a 9) (a 13) (a 12) n p1 p2 k)), (4, .int (nI k))]) hx hb dX6_high_32 hl (by decide) rfl (fun ls hl => ?_)
      refine x_join 7 [(0, .ref (b 0)), (1, .int p1), (2, .int p2), (3, .int (mxI (rHigh (a 7) (a 8) (a 9) (a 13) (a 12) n p1 p2 k) (a 13 k))), (4, .int (nI k))] 47 [] ?_ (fun j_47 => ?_)
      · intro ls hl
        refine lv_aload_n hx hb dX6_high_47 rfl (lv_at hl 0 rfl) ?_
        refine va_get (D := D) (ci := 6) (v := .ref (b 12)) (C := RX6) (T := TX6) (N := 23) hx hb hts hiX60 hown hK.1 hP 0 rfl rfl 15 (by decide) f1 (fun _ h9 => h9) rfl dX6_high_48 ?_
        refine lv_iload hx hb dX6_high_51 (lv_at hl 4 rfl) ?_
        refine x_iald hx hb hK hP 12 0 rfl rfl (k := k) (by omega) (by decide) dX6_high_53 ?_
        refine lv_if_eq (tgt := 99) hx hb dX6_high_54 (by decide) (fun c_54 => ?_) (fun c_54 => ?_)
        · have hl := lv_cast (l' := [(0, .ref (b 0)), (1, .int p1), (2, .int p2), (3, .int (rHigh (a 7) (a 8) (a 9) (a 13) (a 12) n p1 p2 (k + 1))), (4, .int (nI k))]) hl (by rw [show mxI (rHigh (a 7) (a 8) (a 9) (a 13) (a 12) n p1 p2 k) (a 13 k) = rHigh (a 7) (a 8) (a 9) (a 13) (a 12) n p1 p2 (k + 1) from (rHigh_1 c_23 (fun h => h.1 c_54)).symm])
          refine lv_iinc (v := nI (k + 1)) (lv' := [(4, .int (nI (k + 1))), (0, .ref (b 0)), (1, .int p1), (2, .int p2), (3, .int (rHigh (a 7) (a 8) (a 9) (a 13) (a 12) n p1 p2 (k + 1)))]) hx hb dX6_high_99 hl (k := 4) rfl (x_inc k) (by decide) rfl (fun ls hl => ?_)
          refine lv_goto (tgt := 6) hx hb dX6_high_102 (by decide) ?_
          exact ihk (by omega) () _ trivial (lv_sub hl [1, 2, 3, 4, 0] rfl)
        · refine lv_aload_n hx hb dX6_high_57 rfl (lv_at hl 0 rfl) ?_
          refine lv_iload hx hb dX6_high_58 (lv_at hl 4 rfl) ?_
          refine rcVi (As := [.int (nI k)]) (rest := []) ⟨hx, hb, hml, hown, hts⟩ (k6_stemOf l D b cA u n m a k (by omega) (by omega)) (cwV 1 hts gX6_high_X6_stemOf rfl rfl rfl (by decide +kernel) ⟨Nat.le_of_ble_eq_true rfl, Nat.le_of_ble_eq_true rfl⟩) (va_recv hK.1 hP (ci := 6) (q0 := 0) rfl rfl) hP hK rfl hl.1 rfl (Nat.le_of_ble_eq_true rfl) dX6_high_60 ⟨Nat.zero_le _, Nat.zero_le _⟩ ?_
          refine lv_iconst (v := 1) hx hb dX6_high_63 (by decide) ?_
          refine lv_icmp_ne (tgt := 99) hx hb dX6_high_64 (by decide) (fun c_64 => ?_) (fun c_64 => ?_)
          · have hl := lv_cast (l' := [(0, .ref (b 0)), (1, .int p1), (2, .int p2), (3, .int (rHigh (a 7) (a 8) (a 9) (a 13) (a 12) n p1 p2 (k + 1))), (4, .int (nI k))]) hl (by rw [show mxI (rHigh (a 7) (a 8) (a 9) (a 13) (a 12) n p1 p2 k) (a 13 k) = rHigh (a 7) (a 8) (a 9) (a 13) (a 12) n p1 p2 (k + 1) from (rHigh_1 c_23 (fun h => bv_n1 c_64 h.2)).symm])
            refine lv_iinc (v := nI (k + 1)) (lv' := [(4, .int (nI (k + 1))), (0, .ref (b 0)), (1, .int p1), (2, .int p2), (3, .int (rHigh (a 7) (a 8) (a 9) (a 13) (a 12) n p1 p2 (k + 1)))]) hx hb dX6_high_99 hl (k := 4) rfl (x_inc k) (by decide) rfl (fun ls hl => ?_)
            refine lv_goto (tgt := 6) hx hb dX6_high_102 (by decide) ?_
            exact ihk (by omega) () _ trivial (lv_sub hl [1, 2, 3, 4, 0] rfl)
          · refine lv_aload_n hx hb dX6_high_67 rfl (lv_at hl 0 rfl) ?_
            refine lv_iload_n hx hb dX6_high_68 rfl (lv_at hl 1 rfl) ?_
            refine lv_iload_n hx hb dX6_high_69 rfl (lv_at hl 2 rfl) ?_
            refine lv_aload_n hx hb dX6_high_70 rfl (lv_at hl 0 rfl) ?_
            refine va_get (D := D) (ci := 6) (v := .ref (b 8)) (C := RX6) (T := TX6) (N := 23) hx hb hts hiX60 hown hK.1 hP 0 rfl rfl 11 (by decide) f2 (fun _ h9 => h9) rfl dX6_high_71 ?_
            refine lv_iload hx hb dX6_high_74 (lv_at hl 4 rfl) ?_
            refine x_iald hx hb hK hP 8 0 rfl rfl (k := k) (by omega) (by decide) dX6_high_76 ?_
            refine lv_iconst (v := 1) hx hb dX6_high_77 (by decide) ?_
            refine x_tp (y := bv True) (bv_t trivial).symm ?_
            refine rcVi (As := [.int p1, .int p2, .int (a 8 k), .int (bv True)]) (rest := []) ⟨hx, hb, hml, hown, hts⟩ (k6_end l D b cA u n m a p1 p2 (a 8 k) True (by omega)) (cwV 4 hts gX6_high_X6_end rfl rfl rfl (by decide +kernel) ⟨Nat.le_of_ble_eq_true rfl, Nat.le_of_ble_eq_true rfl⟩) (va_recv hK.1 hP (ci := 6) (q0 := 0) rfl rfl) hP hK rfl hl.1 rfl (Nat.le_of_ble_eq_true rfl) dX6_high_78 ⟨Nat.zero_le _, Nat.zero_le _⟩ ?_
            refine lv_bipush (v := 7) hx hb dX6_high_81 (by decide) ?_
            refine lv_iadd hx hb dX6_high_83 ?_
            refine lv_istore (lv' := [(6, .int ((rEnd (a 7) (a 8) (a 9) (a 13) p1 p2 (a 8 k) True n) + 7)), (0, .ref (b 0)), (1, .int p1), (2, .int p2), (3, .int (mxI (rHigh (a 7) (a 8) (a 9) (a 13) (a 12) n p1 p2 k) (a 13 k))), (4, .int (nI k))]) hx hb dX6_high_84 hl (by decide) rfl (fun ls hl => ?_)
            refine lv_iload hx hb dX6_high_86 (lv_at hl 0 rfl) ?_
            refine lv_iload_n hx hb dX6_high_88 rfl (lv_at hl 4 rfl) ?_
            refine x_ile (tgt := 97) hx hb dX6_high_89 (by decide) (fun c_89 => ?_) (fun c_89 => ?_)
            · refine lv_iload_n hx hb dX6_high_97 rfl (lv_at hl 4 rfl) ?_
              refine x_tp (y := rHigh (a 7) (a 8) (a 9) (a 13) (a 12) n p1 p2 (k + 1)) (by rw [rHigh_2 c_23 ⟨c_54, bv_eq1.mp c_64⟩, mxI_f c_89]) ?_
              refine lv_istore_n (lv' := [(3, .int (rHigh (a 7) (a 8) (a 9) (a 13) (a 12) n p1 p2 (k + 1))), (6, .int ((rEnd (a 7) (a 8) (a 9) (a 13) p1 p2 (a 8 k) True n) + 7)), (0, .ref (b 0)), (1, .int p1), (2, .int p2), (4, .int (nI k))]) hx hb dX6_high_98 rfl hl (by decide) rfl (fun ls hl => ?_)
              refine lv_iinc (v := nI (k + 1)) (lv' := [(4, .int (nI (k + 1))), (3, .int (rHigh (a 7) (a 8) (a 9) (a 13) (a 12) n p1 p2 (k + 1))), (6, .int ((rEnd (a 7) (a 8) (a 9) (a 13) p1 p2 (a 8 k) True n) + 7)), (0, .ref (b 0)), (1, .int p1), (2, .int p2)]) hx hb dX6_high_99 hl (k := 5) rfl (x_inc k) (by decide) rfl (fun ls hl => ?_)
              refine lv_goto (tgt := 6) hx hb dX6_high_102 (by decide) ?_
              exact ihk (by omega) () _ trivial (lv_sub hl [3, 4, 5, 1, 0] rfl)
            · refine lv_iload hx hb dX6_high_92 (lv_at hl 0 rfl) ?_
              refine lv_goto (tgt := 98) hx hb dX6_high_94 (by decide) ?_
              refine x_tp (y := rHigh (a 7) (a 8) (a 9) (a 13) (a 12) n p1 p2 (k + 1)) (by rw [rHigh_2 c_23 ⟨c_54, bv_eq1.mp c_64⟩, mxI_t c_89]) ?_
              refine lv_istore_n (lv' := [(3, .int (rHigh (a 7) (a 8) (a 9) (a 13) (a 12) n p1 p2 (k + 1))), (6, .int ((rEnd (a 7) (a 8) (a 9) (a 13) p1 p2 (a 8 k) True n) + 7)), (0, .ref (b 0)), (1, .int p1), (2, .int p2), (4, .int (nI k))]) hx hb dX6_high_98 rfl hl (by decide) rfl (fun ls hl => ?_)
              refine lv_iinc (v := nI (k + 1)) (lv' := [(4, .int (nI (k + 1))), (3, .int (rHigh (a 7) (a 8) (a 9) (a 13) (a 12) n p1 p2 (k + 1))), (6, .int ((rEnd (a 7) (a 8) (a 9) (a 13) p1 p2 (a 8 k) True n) + 7)), (0, .ref (b 0)), (1, .int p1), (2, .int p2)]) hx hb dX6_high_99 hl (k := 5) rfl (x_inc k) (by decide) rfl (fun ls hl => ?_)
              refine lv_goto (tgt := 6) hx hb dX6_high_102 (by decide) ?_
              exact ihk (by omega) () _ trivial (lv_sub hl [3, 4, 5, 1, 0] rfl)
      refine lv_iload hx hb dX6_high_34 (lv_at hl 0 rfl) ?_
      refine lv_iload_n hx hb dX6_high_36 rfl (lv_at hl 4 rfl) ?_
      refine x_ile (tgt := 45) hx hb dX6_high_37 (by decide) (fun c_37 => ?_) (fun c_37 => ?_)
      · refine lv_iload_n hx hb dX6_high_45 rfl (lv_at hl 4 rfl) ?_
        refine x_tp (y := mxI (rHigh (a 7) (a 8) (a 9) (a 13) (a 12) n p1 p2 k) (a 13 k)) (mxI_f c_37).symm ?_
        refine lv_istore_n (lv' := [(3, .int (mxI (rHigh (a 7) (a 8) (a 9) (a 13) (a 12) n p1 p2 k) (a 13 k))), (5, .int (a 13 k)), (0, .ref (b 0)), (1, .int p1), (2, .int p2), (4, .int (nI k))]) hx hb dX6_high_46 rfl hl (by decide) rfl (fun ls hl => ?_)
        exact j_47 _ (lv_sub hl [2, 3, 4, 0, 5] rfl)
      · refine lv_iload hx hb dX6_high_40 (lv_at hl 0 rfl) ?_
        refine lv_goto (tgt := 46) hx hb dX6_high_42 (by decide) ?_
        refine x_tp (y := mxI (rHigh (a 7) (a 8) (a 9) (a 13) (a 12) n p1 p2 k) (a 13 k)) (mxI_t c_37).symm ?_
        refine lv_istore_n (lv' := [(3, .int (mxI (rHigh (a 7) (a 8) (a 9) (a 13) (a 12) n p1 p2 k) (a 13 k))), (5, .int (a 13 k)), (0, .ref (b 0)), (1, .int p1), (2, .int p2), (4, .int (nI k))]) hx hb dX6_high_46 rfl hl (by decide) rfl (fun ls hl => ?_)
        exact j_47 _ (lv_sub hl [2, 3, 4, 0, 5] rfl)

set_option maxHeartbeats 4000000 in
set_option maxRecDepth 100000 in
theorem k6_low (l : Launch) (D : va_G) (b : Nat → Nat) (cA : ClassId) (u : Nat → Int32) (n m : Nat) (a : Nat → Nat → Int32) (p1 p2 : Int32) (hn : n ≤ 60) : Met l yX6_low wsX6_low ({ frames := 5, cells := 0, slots := 0, locals := 122 }) (rPc D (mW b cA u n m a) [(cA, .int)] [.ref (b 0), .int p1, .int p2]) (vp_Si (fun r => r = rLow (a 7) (a 8) (a 9) (a 13) (a 12) n p1 p2 n)) 0 0 (fun _ => False) := by
  refine r_head (C := RX6) (cc := cX6_low) (maxL := 7) (ret := (some .int)) [(0, .ref (b 0)), (1, .int p1), (2, .int p2)] (by decide) rfl rfl (Nat.le_of_ble_eq_true rfl) rfl ?_
  intro p e s mi below meth c hx hb hr hlk hml hown hts hP hK ls hl
  have hiX60 : ∀ w ∈ wsX60, w ∈ wsX6_low := fun w h => List.mem_cons_of_mem _ (List.mem_append_right _ h)
  have f0 := hts (.fieldLink RX6 76 "StaffHeadsModel" "notes" "I") (List.mem_of_getElem? (i := 1) rfl)
  have f1 := hts (.fieldLink RX6 43 "StaffHeadsModel" "headOf" "[I") (List.mem_of_getElem? (i := 2) rfl)
  have f2 := hts (.fieldLink RX6 31 "StaffHeadsModel" "voiceOf" "[I") (List.mem_of_getElem? (i := 3) rfl)
  refine lv_iconst (v := 0) hx hb dX6_low_0 (by decide) ?_
  refine x_tp (y := rLow (a 7) (a 8) (a 9) (a 13) (a 12) n p1 p2 0) rfl ?_
  refine lv_istore_n (lv' := [(3, .int (rLow (a 7) (a 8) (a 9) (a 13) (a 12) n p1 p2 0)), (0, .ref (b 0)), (1, .int p1), (2, .int p2)]) hx hb dX6_low_1 rfl hl (by decide) rfl (fun ls hl => ?_)
  refine lv_iconst (v := 0) hx hb dX6_low_2 (by decide) ?_
  refine x_tp (y := nI 0) nI_0.symm ?_
  refine lv_istore (lv' := [(4, .int (nI 0)), (3, .int (rLow (a 7) (a 8) (a 9) (a 13) (a 12) n p1 p2 0)), (0, .ref (b 0)), (1, .int p1), (2, .int p2)]) hx hb dX6_low_3 hl (by decide) rfl (fun ls hl => ?_)
  refine lpR (G := fun ls => W p l e _ s mi _ below meth c _ _ _ _ _ (F0 mi 5 ls [])) 7 n (fun k (_ : Unit) => [(0, .ref (b 0)), (1, .int p1), (2, .int p2), (3, .int (rLow (a 7) (a 8) (a 9) (a 13) (a 12) n p1 p2 k)), (4, .int (nI k))]) (fun _ _ => True) ?_ 0 () (Nat.zero_le _) trivial (lv_sub hl [2, 3, 4, 1, 0] rfl)
  clear hl ls
  intro k gu hk hkI ls hl ihk
  refine lv_iload hx hb dX6_low_5 (lv_at hl 4 rfl) ?_
  refine lv_aload_n hx hb dX6_low_7 rfl (lv_at hl 0 rfl) ?_
  refine va_get (D := D) (ci := 6) (v := .int (nI n)) (C := RX6) (T := TX6) (N := 23) hx hb hts hiX60 hown hK.1 hP 0 rfl rfl 9 (by decide) f0 (fun _ h9 => h9) rfl dX6_low_8 ?_
  refine x_nge (tgt := 103) hx hb dX6_low_11 (by decide) (by omega) (by omega) (fun c_11 => ?_) (fun c_11 => ?_)
  · obtain rfl : n = k := by omega
    refine lv_iload_n hx hb dX6_low_103 rfl (lv_at hl 3 rfl) ?_
    exact r_iret hx hb hr hlk (rfl) dX6_low_104
  · refine lv_aload_n hx hb dX6_low_14 rfl (lv_at hl 0 rfl) ?_
    refine lv_iload hx hb dX6_low_15 (lv_at hl 4 rfl) ?_
    refine lv_iload_n hx hb dX6_low_17 rfl (lv_at hl 1 rfl) ?_
    refine lv_iload_n hx hb dX6_low_18 rfl (lv_at hl 2 rfl) ?_
    refine rcVi (As := [.int (nI k), .int p1, .int p2]) (rest := []) ⟨hx, hb, hml, hown, hts⟩ (k6_isAt l D b cA u n m a k p1 p2 (by omega)) (cwV 3 hts gX6_low_X6_isAt rfl rfl rfl (by decide +kernel) ⟨Nat.le_of_ble_eq_true rfl, Nat.le_of_ble_eq_true rfl⟩) (va_recv hK.1 hP (ci := 6) (q0 := 0) rfl rfl) hP hK rfl hl.1 rfl (Nat.le_of_ble_eq_true rfl) dX6_low_19 ⟨Nat.zero_le _, Nat.zero_le _⟩ ?_
    refine x_ifeq (tgt := 97) hx hb dX6_low_22 (by decide) (fun c_22 => ?_) (fun c_22 => ?_)
    · have hl := lv_cast (l' := [(0, .ref (b 0)), (1, .int p1), (2, .int p2), (3, .int (rLow (a 7) (a 8) (a 9) (a 13) (a 12) n p1 p2 (k + 1))), (4, .int (nI k))]) hl (by rw [show rLow (a 7) (a 8) (a 9) (a 13) (a 12) n p1 p2 k = rLow (a 7) (a 8) (a 9) (a 13) (a 12) n p1 p2 (k + 1) from (rLow_n c_22).symm])
      refine lv_iinc (v := nI (k + 1)) (lv' := [(4, .int (nI (k + 1))), (0, .ref (b 0)), (1, .int p1), (2, .int p2), (3, .int (rLow (a 7) (a 8) (a 9) (a 13) (a 12) n p1 p2 (k + 1)))]) hx hb dX6_low_97 hl (k := 4) rfl (x_inc k) (by decide) rfl (fun ls hl => ?_)
      refine lv_goto (tgt := 5) hx hb dX6_low_100 (by decide) ?_
      exact ihk (by omega) () _ trivial (lv_sub hl [1, 2, 3, 4, 0] rfl)
    · refine lv_aload_n hx hb dX6_low_25 rfl (lv_at hl 0 rfl) ?_
      refine lv_iload hx hb dX6_low_26 (lv_at hl 4 rfl) ?_
      refine rcVi (As := [.int (nI k)]) (rest := []) ⟨hx, hb, hml, hown, hts⟩ (k6_step l D b cA u n m a k (by omega)) (cwV 1 hts gX6_low_X6_step rfl rfl rfl (by decide +kernel) ⟨Nat.le_of_ble_eq_true rfl, Nat.le_of_ble_eq_true rfl⟩) (va_recv hK.1 hP (ci := 6) (q0 := 0) rfl rfl) hP hK rfl hl.1 rfl (Nat.le_of_ble_eq_true rfl) dX6_low_28 ⟨Nat.zero_le _, Nat.zero_le _⟩ ?_
      refine lv_istore (lv' := [(5, .int (a 13 k)), (0, .ref (b 0)), (1, .int p1), (2, .int p2), (3, .int (rLow (a 7) (a 8) (a 9) (a 13) (a 12) n p1 p2 k)), (4, .int (nI k))]) hx hb dX6_low_31 hl (by decide) rfl (fun ls hl => ?_)
      refine x_join 7 [(0, .ref (b 0)), (1, .int p1), (2, .int p2), (3, .int (mnI (rLow (a 7) (a 8) (a 9) (a 13) (a 12) n p1 p2 k) (a 13 k))), (4, .int (nI k))] 46 [] ?_ (fun j_46 => ?_)
      · intro ls hl
        refine lv_aload_n hx hb dX6_low_46 rfl (lv_at hl 0 rfl) ?_
        refine va_get (D := D) (ci := 6) (v := .ref (b 12)) (C := RX6) (T := TX6) (N := 23) hx hb hts hiX60 hown hK.1 hP 0 rfl rfl 15 (by decide) f1 (fun _ h9 => h9) rfl dX6_low_47 ?_
        refine lv_iload hx hb dX6_low_50 (lv_at hl 4 rfl) ?_
        refine x_iald hx hb hK hP 12 0 rfl rfl (k := k) (by omega) (by decide) dX6_low_52 ?_
        refine lv_if_eq (tgt := 97) hx hb dX6_low_53 (by decide) (fun c_53 => ?_) (fun c_53 => ?_)
        · have hl := lv_cast (l' := [(0, .ref (b 0)), (1, .int p1), (2, .int p2), (3, .int (rLow (a 7) (a 8) (a 9) (a 13) (a 12) n p1 p2 (k + 1))), (4, .int (nI k))]) hl (by rw [show mnI (rLow (a 7) (a 8) (a 9) (a 13) (a 12) n p1 p2 k) (a 13 k) = rLow (a 7) (a 8) (a 9) (a 13) (a 12) n p1 p2 (k + 1) from (rLow_1 c_22 (fun h => h.1 c_53)).symm])
          refine lv_iinc (v := nI (k + 1)) (lv' := [(4, .int (nI (k + 1))), (0, .ref (b 0)), (1, .int p1), (2, .int p2), (3, .int (rLow (a 7) (a 8) (a 9) (a 13) (a 12) n p1 p2 (k + 1)))]) hx hb dX6_low_97 hl (k := 4) rfl (x_inc k) (by decide) rfl (fun ls hl => ?_)
          refine lv_goto (tgt := 5) hx hb dX6_low_100 (by decide) ?_
          exact ihk (by omega) () _ trivial (lv_sub hl [1, 2, 3, 4, 0] rfl)
        · refine lv_aload_n hx hb dX6_low_56 rfl (lv_at hl 0 rfl) ?_
          refine lv_iload hx hb dX6_low_57 (lv_at hl 4 rfl) ?_
          refine rcVi (As := [.int (nI k)]) (rest := []) ⟨hx, hb, hml, hown, hts⟩ (k6_stemOf l D b cA u n m a k (by omega) (by omega)) (cwV 1 hts gX6_low_X6_stemOf rfl rfl rfl (by decide +kernel) ⟨Nat.le_of_ble_eq_true rfl, Nat.le_of_ble_eq_true rfl⟩) (va_recv hK.1 hP (ci := 6) (q0 := 0) rfl rfl) hP hK rfl hl.1 rfl (Nat.le_of_ble_eq_true rfl) dX6_low_59 ⟨Nat.zero_le _, Nat.zero_le _⟩ ?_
          refine x_ifne (tgt := 97) hx hb dX6_low_62 (by decide) (fun c_62 => ?_) (fun c_62 => ?_)
          · have hl := lv_cast (l' := [(0, .ref (b 0)), (1, .int p1), (2, .int p2), (3, .int (rLow (a 7) (a 8) (a 9) (a 13) (a 12) n p1 p2 (k + 1))), (4, .int (nI k))]) hl (by rw [show mnI (rLow (a 7) (a 8) (a 9) (a 13) (a 12) n p1 p2 k) (a 13 k) = rLow (a 7) (a 8) (a 9) (a 13) (a 12) n p1 p2 (k + 1) from (rLow_1 c_22 (fun h => h.2 c_62)).symm])
            refine lv_iinc (v := nI (k + 1)) (lv' := [(4, .int (nI (k + 1))), (0, .ref (b 0)), (1, .int p1), (2, .int p2), (3, .int (rLow (a 7) (a 8) (a 9) (a 13) (a 12) n p1 p2 (k + 1)))]) hx hb dX6_low_97 hl (k := 4) rfl (x_inc k) (by decide) rfl (fun ls hl => ?_)
            refine lv_goto (tgt := 5) hx hb dX6_low_100 (by decide) ?_
            exact ihk (by omega) () _ trivial (lv_sub hl [1, 2, 3, 4, 0] rfl)
          · refine lv_aload_n hx hb dX6_low_65 rfl (lv_at hl 0 rfl) ?_
            refine lv_iload_n hx hb dX6_low_66 rfl (lv_at hl 1 rfl) ?_
            refine lv_iload_n hx hb dX6_low_67 rfl (lv_at hl 2 rfl) ?_
            refine lv_aload_n hx hb dX6_low_68 rfl (lv_at hl 0 rfl) ?_
            refine va_get (D := D) (ci := 6) (v := .ref (b 8)) (C := RX6) (T := TX6) (N := 23) hx hb hts hiX60 hown hK.1 hP 0 rfl rfl 11 (by decide) f2 (fun _ h9 => h9) rfl dX6_low_69 ?_
            refine lv_iload hx hb dX6_low_72 (lv_at hl 4 rfl) ?_
            refine x_iald hx hb hK hP 8 0 rfl rfl (k := k) (by omega) (by decide) dX6_low_74 ?_
            refine lv_iconst (v := 0) hx hb dX6_low_75 (by decide) ?_
            refine x_tp (y := bv False) (bv_f id).symm ?_
            refine rcVi (As := [.int p1, .int p2, .int (a 8 k), .int (bv False)]) (rest := []) ⟨hx, hb, hml, hown, hts⟩ (k6_end l D b cA u n m a p1 p2 (a 8 k) False (by omega)) (cwV 4 hts gX6_low_X6_end rfl rfl rfl (by decide +kernel) ⟨Nat.le_of_ble_eq_true rfl, Nat.le_of_ble_eq_true rfl⟩) (va_recv hK.1 hP (ci := 6) (q0 := 0) rfl rfl) hP hK rfl hl.1 rfl (Nat.le_of_ble_eq_true rfl) dX6_low_76 ⟨Nat.zero_le _, Nat.zero_le _⟩ ?_
            refine lv_bipush (v := 7) hx hb dX6_low_79 (by decide) ?_
            refine lv_isub hx hb dX6_low_81 ?_
            refine lv_istore (lv' := [(6, .int ((rEnd (a 7) (a 8) (a 9) (a 13) p1 p2 (a 8 k) False n) - 7)), (0, .ref (b 0)), (1, .int p1), (2, .int p2), (3, .int (mnI (rLow (a 7) (a 8) (a 9) (a 13) (a 12) n p1 p2 k) (a 13 k))), (4, .int (nI k))]) hx hb dX6_low_82 hl (by decide) rfl (fun ls hl => ?_)
            refine lv_iload hx hb dX6_low_84 (lv_at hl 0 rfl) ?_
            refine lv_iload_n hx hb dX6_low_86 rfl (lv_at hl 4 rfl) ?_
            refine x_ige (tgt := 95) hx hb dX6_low_87 (by decide) (fun c_87 => ?_) (fun c_87 => ?_)
            · refine lv_iload_n hx hb dX6_low_95 rfl (lv_at hl 4 rfl) ?_
              refine x_tp (y := rLow (a 7) (a 8) (a 9) (a 13) (a 12) n p1 p2 (k + 1)) (by rw [rLow_2 c_22 ⟨c_53, c_62⟩, mnI_f c_87]) ?_
              refine lv_istore_n (lv' := [(3, .int (rLow (a 7) (a 8) (a 9) (a 13) (a 12) n p1 p2 (k + 1))), (6, .int ((rEnd (a 7) (a 8) (a 9) (a 13) p1 p2 (a 8 k) False n) - 7)), (0, .ref (b 0)), (1, .int p1), (2, .int p2), (4, .int (nI k))]) hx hb dX6_low_96 rfl hl (by decide) rfl (fun ls hl => ?_)
              refine lv_iinc (v := nI (k + 1)) (lv' := [(4, .int (nI (k + 1))), (3, .int (rLow (a 7) (a 8) (a 9) (a 13) (a 12) n p1 p2 (k + 1))), (6, .int ((rEnd (a 7) (a 8) (a 9) (a 13) p1 p2 (a 8 k) False n) - 7)), (0, .ref (b 0)), (1, .int p1), (2, .int p2)]) hx hb dX6_low_97 hl (k := 5) rfl (x_inc k) (by decide) rfl (fun ls hl => ?_)
              refine lv_goto (tgt := 5) hx hb dX6_low_100 (by decide) ?_
              exact ihk (by omega) () _ trivial (lv_sub hl [3, 4, 5, 1, 0] rfl)
            · refine lv_iload hx hb dX6_low_90 (lv_at hl 0 rfl) ?_
              refine lv_goto (tgt := 96) hx hb dX6_low_92 (by decide) ?_
              refine x_tp (y := rLow (a 7) (a 8) (a 9) (a 13) (a 12) n p1 p2 (k + 1)) (by rw [rLow_2 c_22 ⟨c_53, c_62⟩, mnI_t c_87]) ?_
              refine lv_istore_n (lv' := [(3, .int (rLow (a 7) (a 8) (a 9) (a 13) (a 12) n p1 p2 (k + 1))), (6, .int ((rEnd (a 7) (a 8) (a 9) (a 13) p1 p2 (a 8 k) False n) - 7)), (0, .ref (b 0)), (1, .int p1), (2, .int p2), (4, .int (nI k))]) hx hb dX6_low_96 rfl hl (by decide) rfl (fun ls hl => ?_)
              refine lv_iinc (v := nI (k + 1)) (lv' := [(4, .int (nI (k + 1))), (3, .int (rLow (a 7) (a 8) (a 9) (a 13) (a 12) n p1 p2 (k + 1))), (6, .int ((rEnd (a 7) (a 8) (a 9) (a 13) p1 p2 (a 8 k) False n) - 7)), (0, .ref (b 0)), (1, .int p1), (2, .int p2)]) hx hb dX6_low_97 hl (k := 5) rfl (x_inc k) (by decide) rfl (fun ls hl => ?_)
              refine lv_goto (tgt := 5) hx hb dX6_low_100 (by decide) ?_
              exact ihk (by omega) () _ trivial (lv_sub hl [3, 4, 5, 1, 0] rfl)
      refine lv_iload hx hb dX6_low_33 (lv_at hl 0 rfl) ?_
      refine lv_iload_n hx hb dX6_low_35 rfl (lv_at hl 4 rfl) ?_
      refine x_ige (tgt := 44) hx hb dX6_low_36 (by decide) (fun c_36 => ?_) (fun c_36 => ?_)
      · refine lv_iload_n hx hb dX6_low_44 rfl (lv_at hl 4 rfl) ?_
        refine x_tp (y := mnI (rLow (a 7) (a 8) (a 9) (a 13) (a 12) n p1 p2 k) (a 13 k)) (mnI_f c_36).symm ?_
        refine lv_istore_n (lv' := [(3, .int (mnI (rLow (a 7) (a 8) (a 9) (a 13) (a 12) n p1 p2 k) (a 13 k))), (5, .int (a 13 k)), (0, .ref (b 0)), (1, .int p1), (2, .int p2), (4, .int (nI k))]) hx hb dX6_low_45 rfl hl (by decide) rfl (fun ls hl => ?_)
        exact j_46 _ (lv_sub hl [2, 3, 4, 0, 5] rfl)
      · refine lv_iload hx hb dX6_low_39 (lv_at hl 0 rfl) ?_
        refine lv_goto (tgt := 45) hx hb dX6_low_41 (by decide) ?_
        refine x_tp (y := mnI (rLow (a 7) (a 8) (a 9) (a 13) (a 12) n p1 p2 k) (a 13 k)) (mnI_t c_36).symm ?_
        refine lv_istore_n (lv' := [(3, .int (mnI (rLow (a 7) (a 8) (a 9) (a 13) (a 12) n p1 p2 k) (a 13 k))), (5, .int (a 13 k)), (0, .ref (b 0)), (1, .int p1), (2, .int p2), (4, .int (nI k))]) hx hb dX6_low_45 rfl hl (by decide) rfl (fun ls hl => ?_)
        exact j_46 _ (lv_sub hl [2, 3, 4, 0, 5] rfl)

set_option maxHeartbeats 4000000 in
set_option maxRecDepth 100000 in
theorem k6_gapAbove (l : Launch) (D : va_G) (b : Nat → Nat) (cA : ClassId) (u : Nat → Int32) (n m : Nat) (a : Nat → Nat → Int32) (j : Nat) (hj : j < 3) (hn : n ≤ 60) : Met l yX6_gapAbove wsX6_gapAbove ({ frames := 6, cells := 0, slots := 0, locals := 148 }) (rPc D (mW b cA u n m a) [(cA, .int)] [.ref (b 0), .int (nI (j + 1))]) (vp_Si (fun r => r = rGapA (a 7) (a 8) (a 9) (a 13) (a 12) n (u 2) (u 3) (u 4) j)) 0 0 (fun _ => False) := by
  refine r_head (C := RX6) (cc := cX6_gapAbove) (maxL := 6) (ret := (some .int)) [(0, .ref (b 0)), (1, .int (nI (j + 1)))] (by decide) rfl rfl (Nat.le_of_ble_eq_true rfl) rfl ?_
  intro p e s mi below meth c hx hb hr hlk hml hown hts hP hK ls hl
  have hiX60 : ∀ w ∈ wsX60, w ∈ wsX6_gapAbove := fun w h => List.mem_cons_of_mem _ (List.mem_append_right _ h)
  have f0 := hts (.fieldLink RX6 76 "StaffHeadsModel" "notes" "I") (List.mem_of_getElem? (i := 3) rfl)
  have f1 := hts (.fieldLink RX6 28 "StaffHeadsModel" "staffOf" "[I") (List.mem_of_getElem? (i := 4) rfl)
  have f2 := hts (.fieldLink RX6 34 "StaffHeadsModel" "tickOf" "[I") (List.mem_of_getElem? (i := 5) rfl)
  have f3 := hts (.fieldLink RX6 46 "StaffHeadsModel" "pad" "I") (List.mem_of_getElem? (i := 2) rfl)
  have f4 := hts (.fieldLink RX6 50 "StaffHeadsModel" "least" "I") (List.mem_of_getElem? (i := 1) rfl)
  refine lv_iload_n hx hb dX6_gapAbove_0 rfl (lv_at hl 1 rfl) ?_
  refine lv_iconst (v := 1) hx hb dX6_gapAbove_1 (by decide) ?_
  refine lv_isub hx hb dX6_gapAbove_2 ?_
  refine x_tp (y := nI j) (nI_pred j) ?_
  refine lv_istore_n (lv' := [(2, .int (nI j)), (0, .ref (b 0)), (1, .int (nI (j + 1)))]) hx hb dX6_gapAbove_3 rfl hl (by decide) rfl (fun ls hl => ?_)
  refine lpR (G := fun ls => W p l e _ s mi _ below meth c _ _ _ _ _ (F0 mi 4 ls [])) 6 j (fun i (g : Nat) => [(0, .ref (b 0)), (1, .int (nI (j + 1))), (2, .int (nI g))]) (fun i g => g + i = j ∧ rUpr (a 7) (u 4) n g = rUpr (a 7) (u 4) n j) ?_ 0 j (Nat.zero_le _) ⟨rfl, rfl⟩ (lv_sub hl [1, 2, 0] rfl)
  clear hl ls
  intro i g hi hiI ls hl ihi
  obtain ⟨hg1, hg2⟩ := hiI
  refine lv_aload_n hx hb dX6_gapAbove_4 rfl (lv_at hl 0 rfl) ?_
  refine lv_iload_n hx hb dX6_gapAbove_5 rfl (lv_at hl 2 rfl) ?_
  refine rcVi (As := [.int (nI g)]) (rest := []) ⟨hx, hb, hml, hown, hts⟩ (k6_isHidden l D b cA u n m a (nI g) (by omega)) (cwV 1 hts gX6_gapAbove_X6_isHidden rfl rfl rfl (by decide +kernel) ⟨Nat.le_of_ble_eq_true rfl, Nat.le_of_ble_eq_true rfl⟩) (va_recv hK.1 hP (ci := 6) (q0 := 0) rfl rfl) hP hK rfl hl.1 rfl (Nat.le_of_ble_eq_true rfl) dX6_gapAbove_6 ⟨Nat.zero_le _, Nat.zero_le _⟩ ?_
  refine x_ifeq (tgt := 18) hx hb dX6_gapAbove_9 (by decide) (fun c_9 => ?_) (fun c_9 => ?_)
  · have hg4 : rUpr (a 7) (u 4) n g = g := by
      cases g with
      | zero => rfl
      | succ q => rw [rUpr, if_neg c_9]
    have hg5 : g = rUpr (a 7) (u 4) n j := by rw [← hg2, hg4]
    have hl := lv_cast (l' := [(0, .ref (b 0)), (1, .int (nI (j + 1))), (2, .int (nI (rUpr (a 7) (u 4) n j)))]) hl (by rw [show nI g = nI (rUpr (a 7) (u 4) n j) from (by rw [hg5])])
    have hUl := rUpr_le (a 7) (u 4) n j
    refine x_join 6 [(0, .ref (b 0)), (1, .int (nI (j + 1))), (2, .int (nI (rUpr (a 7) (u 4) n j)))] 40 [.int (rGap (a 7) (a 8) (a 9) (a 13) (a 12) n (nI (j + 1)) (nI (rUpr (a 7) (u 4) n j)) (u 2) (u 3) 0)] ?_ (fun j_40 => ?_)
    · intro ls hl
      refine lv_istore_n (lv' := [(3, .int (rGap (a 7) (a 8) (a 9) (a 13) (a 12) n (nI (j + 1)) (nI (rUpr (a 7) (u 4) n j)) (u 2) (u 3) 0)), (0, .ref (b 0)), (1, .int (nI (j + 1))), (2, .int (nI (rUpr (a 7) (u 4) n j)))]) hx hb dX6_gapAbove_40 rfl hl (by decide) rfl (fun ls hl => ?_)
      refine lv_iconst (v := 0) hx hb dX6_gapAbove_41 (by decide) ?_
      refine x_tp (y := nI 0) nI_0.symm ?_
      refine lv_istore (lv' := [(4, .int (nI 0)), (3, .int (rGap (a 7) (a 8) (a 9) (a 13) (a 12) n (nI (j + 1)) (nI (rUpr (a 7) (u 4) n j)) (u 2) (u 3) 0)), (0, .ref (b 0)), (1, .int (nI (j + 1))), (2, .int (nI (rUpr (a 7) (u 4) n j)))]) hx hb dX6_gapAbove_42 hl (by decide) rfl (fun ls hl => ?_)
      refine lpR (G := fun ls => W p l e _ s mi _ below meth c _ _ _ _ _ (F0 mi 44 ls [])) 6 n (fun k (_ : Unit) => [(0, .ref (b 0)), (1, .int (nI (j + 1))), (2, .int (nI (rUpr (a 7) (u 4) n j))), (3, .int (rGap (a 7) (a 8) (a 9) (a 13) (a 12) n (nI (j + 1)) (nI (rUpr (a 7) (u 4) n j)) (u 2) (u 3) k)), (4, .int (nI k))]) (fun _ _ => True) ?_ 0 () (Nat.zero_le _) trivial (lv_sub hl [2, 3, 4, 1, 0] rfl)
      clear hl ls
      intro k gu hk hkI ls hl ihk
      refine lv_iload hx hb dX6_gapAbove_44 (lv_at hl 4 rfl) ?_
      refine lv_aload_n hx hb dX6_gapAbove_46 rfl (lv_at hl 0 rfl) ?_
      refine va_get (D := D) (ci := 6) (v := .int (nI n)) (C := RX6) (T := TX6) (N := 23) hx hb hts hiX60 hown hK.1 hP 0 rfl rfl 9 (by decide) f0 (fun _ h9 => h9) rfl dX6_gapAbove_47 ?_
      refine x_nge (tgt := 140) hx hb dX6_gapAbove_50 (by decide) (by omega) (by omega) (fun c_50 => ?_) (fun c_50 => ?_)
      · obtain rfl : n = k := by omega
        refine lv_iload_n hx hb dX6_gapAbove_140 rfl (lv_at hl 3 rfl) ?_
        exact r_iret hx hb hr hlk (rfl) dX6_gapAbove_141
      · refine lv_aload_n hx hb dX6_gapAbove_53 rfl (lv_at hl 0 rfl) ?_
        refine va_get (D := D) (ci := 6) (v := .ref (b 7)) (C := RX6) (T := TX6) (N := 23) hx hb hts hiX60 hown hK.1 hP 0 rfl rfl 10 (by decide) f1 (fun _ h9 => h9) rfl dX6_gapAbove_54 ?_
        refine lv_iload hx hb dX6_gapAbove_57 (lv_at hl 4 rfl) ?_
        refine x_iald hx hb hK hP 7 0 rfl rfl (k := k) (by omega) (by decide) dX6_gapAbove_59 ?_
        refine lv_iload_n hx hb dX6_gapAbove_60 rfl (lv_at hl 1 rfl) ?_
        refine lv_icmp_eq (tgt := 75) hx hb dX6_gapAbove_61 (by decide) (fun c_61 => ?_) (fun c_61 => ?_)
        · have c_72 : a 7 k = nI (j + 1) ∨ a 7 k = nI (rUpr (a 7) (u 4) n j) := by simp [c_61]
          refine lv_aload_n hx hb dX6_gapAbove_75 rfl (lv_at hl 0 rfl) ?_
          refine lv_iload hx hb dX6_gapAbove_76 (lv_at hl 4 rfl) ?_
          refine lv_iload_n hx hb dX6_gapAbove_78 rfl (lv_at hl 1 rfl) ?_
          refine lv_iload_n hx hb dX6_gapAbove_79 rfl (lv_at hl 2 rfl) ?_
          refine rcVi (As := [.int (nI k), .int (nI (j + 1)), .int (nI (rUpr (a 7) (u 4) n j))]) (rest := []) ⟨hx, hb, hml, hown, hts⟩ (k6_isFirstAt l D b cA u n m a k (nI (j + 1)) (nI (rUpr (a 7) (u 4) n j)) (by omega)) (cwV 3 hts gX6_gapAbove_X6_isFirstAt rfl rfl rfl (by decide +kernel) ⟨Nat.le_of_ble_eq_true rfl, Nat.le_of_ble_eq_true rfl⟩) (va_recv hK.1 hP (ci := 6) (q0 := 0) rfl rfl) hP hK rfl hl.1 rfl (Nat.le_of_ble_eq_true rfl) dX6_gapAbove_80 ⟨Nat.zero_le _, Nat.zero_le _⟩ ?_
          refine x_ifeq (tgt := 134) hx hb dX6_gapAbove_83 (by decide) (fun c_83 => ?_) (fun c_83 => ?_)
          · have hl := lv_cast (l' := [(0, .ref (b 0)), (1, .int (nI (j + 1))), (2, .int (nI (rUpr (a 7) (u 4) n j))), (3, .int (rGap (a 7) (a 8) (a 9) (a 13) (a 12) n (nI (j + 1)) (nI (rUpr (a 7) (u 4) n j)) (u 2) (u 3) (k + 1))), (4, .int (nI k))]) hl (by rw [show rGap (a 7) (a 8) (a 9) (a 13) (a 12) n (nI (j + 1)) (nI (rUpr (a 7) (u 4) n j)) (u 2) (u 3) k = rGap (a 7) (a 8) (a 9) (a 13) (a 12) n (nI (j + 1)) (nI (rUpr (a 7) (u 4) n j)) (u 2) (u 3) (k + 1) from (by rw [rGap, if_neg (fun h => c_83 h.2)])])
            refine lv_iinc (v := nI (k + 1)) (lv' := [(4, .int (nI (k + 1))), (0, .ref (b 0)), (1, .int (nI (j + 1))), (2, .int (nI (rUpr (a 7) (u 4) n j))), (3, .int (rGap (a 7) (a 8) (a 9) (a 13) (a 12) n (nI (j + 1)) (nI (rUpr (a 7) (u 4) n j)) (u 2) (u 3) (k + 1)))]) hx hb dX6_gapAbove_134 hl (k := 4) rfl (x_inc k) (by decide) rfl (fun ls hl => ?_)
            refine lv_goto (tgt := 44) hx hb dX6_gapAbove_137 (by decide) ?_
            exact ihk (by omega) () _ trivial (lv_sub hl [1, 2, 3, 4, 0] rfl)
          · refine lv_aload_n hx hb dX6_gapAbove_86 rfl (lv_at hl 0 rfl) ?_
            refine lv_iload_n hx hb dX6_gapAbove_87 rfl (lv_at hl 1 rfl) ?_
            refine lv_aload_n hx hb dX6_gapAbove_88 rfl (lv_at hl 0 rfl) ?_
            refine va_get (D := D) (ci := 6) (v := .ref (b 9)) (C := RX6) (T := TX6) (N := 23) hx hb hts hiX60 hown hK.1 hP 0 rfl rfl 12 (by decide) f2 (fun _ h9 => h9) rfl dX6_gapAbove_89 ?_
            refine lv_iload hx hb dX6_gapAbove_92 (lv_at hl 4 rfl) ?_
            refine x_iald hx hb hK hP 9 0 rfl rfl (k := k) (by omega) (by decide) dX6_gapAbove_94 ?_
            refine rcVi (As := [.int (nI (j + 1)), .int (a 9 k)]) (rest := []) ⟨hx, hb, hml, hown, hts⟩ (k6_high l D b cA u n m a (nI (j + 1)) (a 9 k) (by omega)) (cwV 2 hts gX6_gapAbove_X6_high rfl rfl rfl (by decide +kernel) ⟨Nat.le_of_ble_eq_true rfl, Nat.le_of_ble_eq_true rfl⟩) (va_recv hK.1 hP (ci := 6) (q0 := 0) rfl rfl) hP hK rfl hl.1 rfl (Nat.le_of_ble_eq_true rfl) dX6_gapAbove_95 ⟨Nat.zero_le _, Nat.zero_le _⟩ ?_
            refine lv_bipush (v := 8) hx hb dX6_gapAbove_98 (by decide) ?_
            refine lv_isub hx hb dX6_gapAbove_100 ?_
            refine lv_aload_n hx hb dX6_gapAbove_101 rfl (lv_at hl 0 rfl) ?_
            refine lv_iload_n hx hb dX6_gapAbove_102 rfl (lv_at hl 2 rfl) ?_
            refine lv_aload_n hx hb dX6_gapAbove_103 rfl (lv_at hl 0 rfl) ?_
            refine va_get (D := D) (ci := 6) (v := .ref (b 9)) (C := RX6) (T := TX6) (N := 23) hx hb hts hiX60 hown hK.1 hP 0 rfl rfl 12 (by decide) f2 (fun _ h9 => h9) rfl dX6_gapAbove_104 ?_
            refine lv_iload hx hb dX6_gapAbove_107 (lv_at hl 4 rfl) ?_
            refine x_iald hx hb hK hP 9 0 rfl rfl (k := k) (by omega) (by decide) dX6_gapAbove_109 ?_
            refine rcVi (As := [.int (nI (rUpr (a 7) (u 4) n j)), .int (a 9 k)]) (rest := [.int ((rHigh (a 7) (a 8) (a 9) (a 13) (a 12) n (nI (j + 1)) (a 9 k) n) - 8)]) ⟨hx, hb, hml, hown, hts⟩ (k6_low l D b cA u n m a (nI (rUpr (a 7) (u 4) n j)) (a 9 k) (by omega)) (cwV 2 hts gX6_gapAbove_X6_low rfl rfl rfl (by decide +kernel) ⟨Nat.le_of_ble_eq_true rfl, Nat.le_of_ble_eq_true rfl⟩) (va_recv hK.1 hP (ci := 6) (q0 := 0) rfl rfl) hP hK rfl hl.1 rfl (Nat.le_of_ble_eq_true rfl) dX6_gapAbove_110 ⟨Nat.zero_le _, Nat.zero_le _⟩ ?_
            refine lv_isub hx hb dX6_gapAbove_113 ?_
            refine lv_aload_n hx hb dX6_gapAbove_114 rfl (lv_at hl 0 rfl) ?_
            refine va_get (D := D) (ci := 6) (v := .int (u 2)) (C := RX6) (T := TX6) (N := 23) hx hb hts hiX60 hown hK.1 hP 0 rfl rfl 16 (by decide) f3 (fun _ h9 => h9) rfl dX6_gapAbove_115 ?_
            refine lv_iadd hx hb dX6_gapAbove_118 ?_
            refine lv_istore (lv' := [(5, .int ((((rHigh (a 7) (a 8) (a 9) (a 13) (a 12) n (nI (j + 1)) (a 9 k) n) - 8) - (rLow (a 7) (a 8) (a 9) (a 13) (a 12) n (nI (rUpr (a 7) (u 4) n j)) (a 9 k) n)) + (u 2))), (0, .ref (b 0)), (1, .int (nI (j + 1))), (2, .int (nI (rUpr (a 7) (u 4) n j))), (3, .int (rGap (a 7) (a 8) (a 9) (a 13) (a 12) n (nI (j + 1)) (nI (rUpr (a 7) (u 4) n j)) (u 2) (u 3) k)), (4, .int (nI k))]) hx hb dX6_gapAbove_119 hl (by decide) rfl (fun ls hl => ?_)
            refine lv_iload hx hb dX6_gapAbove_121 (lv_at hl 0 rfl) ?_
            refine lv_iload_n hx hb dX6_gapAbove_123 rfl (lv_at hl 4 rfl) ?_
            refine x_ile (tgt := 132) hx hb dX6_gapAbove_124 (by decide) (fun c_124 => ?_) (fun c_124 => ?_)
            · refine lv_iload_n hx hb dX6_gapAbove_132 rfl (lv_at hl 4 rfl) ?_
              refine x_tp (y := rGap (a 7) (a 8) (a 9) (a 13) (a 12) n (nI (j + 1)) (nI (rUpr (a 7) (u 4) n j)) (u 2) (u 3) (k + 1)) (by rw [rGap, if_pos ⟨c_72, c_83⟩, mxI_f c_124]) ?_
              refine lv_istore_n (lv' := [(3, .int (rGap (a 7) (a 8) (a 9) (a 13) (a 12) n (nI (j + 1)) (nI (rUpr (a 7) (u 4) n j)) (u 2) (u 3) (k + 1))), (5, .int ((((rHigh (a 7) (a 8) (a 9) (a 13) (a 12) n (nI (j + 1)) (a 9 k) n) - 8) - (rLow (a 7) (a 8) (a 9) (a 13) (a 12) n (nI (rUpr (a 7) (u 4) n j)) (a 9 k) n)) + (u 2))), (0, .ref (b 0)), (1, .int (nI (j + 1))), (2, .int (nI (rUpr (a 7) (u 4) n j))), (4, .int (nI k))]) hx hb dX6_gapAbove_133 rfl hl (by decide) rfl (fun ls hl => ?_)
              refine lv_iinc (v := nI (k + 1)) (lv' := [(4, .int (nI (k + 1))), (3, .int (rGap (a 7) (a 8) (a 9) (a 13) (a 12) n (nI (j + 1)) (nI (rUpr (a 7) (u 4) n j)) (u 2) (u 3) (k + 1))), (5, .int ((((rHigh (a 7) (a 8) (a 9) (a 13) (a 12) n (nI (j + 1)) (a 9 k) n) - 8) - (rLow (a 7) (a 8) (a 9) (a 13) (a 12) n (nI (rUpr (a 7) (u 4) n j)) (a 9 k) n)) + (u 2))), (0, .ref (b 0)), (1, .int (nI (j + 1))), (2, .int (nI (rUpr (a 7) (u 4) n j)))]) hx hb dX6_gapAbove_134 hl (k := 5) rfl (x_inc k) (by decide) rfl (fun ls hl => ?_)
              refine lv_goto (tgt := 44) hx hb dX6_gapAbove_137 (by decide) ?_
              exact ihk (by omega) () _ trivial (lv_sub hl [3, 4, 5, 1, 0] rfl)
            · refine lv_iload hx hb dX6_gapAbove_127 (lv_at hl 0 rfl) ?_
              refine lv_goto (tgt := 133) hx hb dX6_gapAbove_129 (by decide) ?_
              refine x_tp (y := rGap (a 7) (a 8) (a 9) (a 13) (a 12) n (nI (j + 1)) (nI (rUpr (a 7) (u 4) n j)) (u 2) (u 3) (k + 1)) (by rw [rGap, if_pos ⟨c_72, c_83⟩, mxI_t c_124]) ?_
              refine lv_istore_n (lv' := [(3, .int (rGap (a 7) (a 8) (a 9) (a 13) (a 12) n (nI (j + 1)) (nI (rUpr (a 7) (u 4) n j)) (u 2) (u 3) (k + 1))), (5, .int ((((rHigh (a 7) (a 8) (a 9) (a 13) (a 12) n (nI (j + 1)) (a 9 k) n) - 8) - (rLow (a 7) (a 8) (a 9) (a 13) (a 12) n (nI (rUpr (a 7) (u 4) n j)) (a 9 k) n)) + (u 2))), (0, .ref (b 0)), (1, .int (nI (j + 1))), (2, .int (nI (rUpr (a 7) (u 4) n j))), (4, .int (nI k))]) hx hb dX6_gapAbove_133 rfl hl (by decide) rfl (fun ls hl => ?_)
              refine lv_iinc (v := nI (k + 1)) (lv' := [(4, .int (nI (k + 1))), (3, .int (rGap (a 7) (a 8) (a 9) (a 13) (a 12) n (nI (j + 1)) (nI (rUpr (a 7) (u 4) n j)) (u 2) (u 3) (k + 1))), (5, .int ((((rHigh (a 7) (a 8) (a 9) (a 13) (a 12) n (nI (j + 1)) (a 9 k) n) - 8) - (rLow (a 7) (a 8) (a 9) (a 13) (a 12) n (nI (rUpr (a 7) (u 4) n j)) (a 9 k) n)) + (u 2))), (0, .ref (b 0)), (1, .int (nI (j + 1))), (2, .int (nI (rUpr (a 7) (u 4) n j)))]) hx hb dX6_gapAbove_134 hl (k := 5) rfl (x_inc k) (by decide) rfl (fun ls hl => ?_)
              refine lv_goto (tgt := 44) hx hb dX6_gapAbove_137 (by decide) ?_
              exact ihk (by omega) () _ trivial (lv_sub hl [3, 4, 5, 1, 0] rfl)
        · refine lv_aload_n hx hb dX6_gapAbove_64 rfl (lv_at hl 0 rfl) ?_
          refine va_get (D := D) (ci := 6) (v := .ref (b 7)) (C := RX6) (T := TX6) (N := 23) hx hb hts hiX60 hown hK.1 hP 0 rfl rfl 10 (by decide) f1 (fun _ h9 => h9) rfl dX6_gapAbove_65 ?_
          refine lv_iload hx hb dX6_gapAbove_68 (lv_at hl 4 rfl) ?_
          refine x_iald hx hb hK hP 7 0 rfl rfl (k := k) (by omega) (by decide) dX6_gapAbove_70 ?_
          refine lv_iload_n hx hb dX6_gapAbove_71 rfl (lv_at hl 2 rfl) ?_
          refine lv_icmp_ne (tgt := 134) hx hb dX6_gapAbove_72 (by decide) (fun c_72 => ?_) (fun c_72 => ?_)
          · have hl := lv_cast (l' := [(0, .ref (b 0)), (1, .int (nI (j + 1))), (2, .int (nI (rUpr (a 7) (u 4) n j))), (3, .int (rGap (a 7) (a 8) (a 9) (a 13) (a 12) n (nI (j + 1)) (nI (rUpr (a 7) (u 4) n j)) (u 2) (u 3) (k + 1))), (4, .int (nI k))]) hl (by rw [show rGap (a 7) (a 8) (a 9) (a 13) (a 12) n (nI (j + 1)) (nI (rUpr (a 7) (u 4) n j)) (u 2) (u 3) k = rGap (a 7) (a 8) (a 9) (a 13) (a 12) n (nI (j + 1)) (nI (rUpr (a 7) (u 4) n j)) (u 2) (u 3) (k + 1) from (by simp [rGap, c_61, c_72])])
            refine lv_iinc (v := nI (k + 1)) (lv' := [(4, .int (nI (k + 1))), (0, .ref (b 0)), (1, .int (nI (j + 1))), (2, .int (nI (rUpr (a 7) (u 4) n j))), (3, .int (rGap (a 7) (a 8) (a 9) (a 13) (a 12) n (nI (j + 1)) (nI (rUpr (a 7) (u 4) n j)) (u 2) (u 3) (k + 1)))]) hx hb dX6_gapAbove_134 hl (k := 4) rfl (x_inc k) (by decide) rfl (fun ls hl => ?_)
            refine lv_goto (tgt := 44) hx hb dX6_gapAbove_137 (by decide) ?_
            exact ihk (by omega) () _ trivial (lv_sub hl [1, 2, 3, 4, 0] rfl)
          · have c_72 : a 7 k = nI (j + 1) ∨ a 7 k = nI (rUpr (a 7) (u 4) n j) := by simp [c_61, c_72]
            refine lv_aload_n hx hb dX6_gapAbove_75 rfl (lv_at hl 0 rfl) ?_
            refine lv_iload hx hb dX6_gapAbove_76 (lv_at hl 4 rfl) ?_
            refine lv_iload_n hx hb dX6_gapAbove_78 rfl (lv_at hl 1 rfl) ?_
            refine lv_iload_n hx hb dX6_gapAbove_79 rfl (lv_at hl 2 rfl) ?_
            refine rcVi (As := [.int (nI k), .int (nI (j + 1)), .int (nI (rUpr (a 7) (u 4) n j))]) (rest := []) ⟨hx, hb, hml, hown, hts⟩ (k6_isFirstAt l D b cA u n m a k (nI (j + 1)) (nI (rUpr (a 7) (u 4) n j)) (by omega)) (cwV 3 hts gX6_gapAbove_X6_isFirstAt rfl rfl rfl (by decide +kernel) ⟨Nat.le_of_ble_eq_true rfl, Nat.le_of_ble_eq_true rfl⟩) (va_recv hK.1 hP (ci := 6) (q0 := 0) rfl rfl) hP hK rfl hl.1 rfl (Nat.le_of_ble_eq_true rfl) dX6_gapAbove_80 ⟨Nat.zero_le _, Nat.zero_le _⟩ ?_
            refine x_ifeq (tgt := 134) hx hb dX6_gapAbove_83 (by decide) (fun c_83 => ?_) (fun c_83 => ?_)
            · have hl := lv_cast (l' := [(0, .ref (b 0)), (1, .int (nI (j + 1))), (2, .int (nI (rUpr (a 7) (u 4) n j))), (3, .int (rGap (a 7) (a 8) (a 9) (a 13) (a 12) n (nI (j + 1)) (nI (rUpr (a 7) (u 4) n j)) (u 2) (u 3) (k + 1))), (4, .int (nI k))]) hl (by rw [show rGap (a 7) (a 8) (a 9) (a 13) (a 12) n (nI (j + 1)) (nI (rUpr (a 7) (u 4) n j)) (u 2) (u 3) k = rGap (a 7) (a 8) (a 9) (a 13) (a 12) n (nI (j + 1)) (nI (rUpr (a 7) (u 4) n j)) (u 2) (u 3) (k + 1) from (by rw [rGap, if_neg (fun h => c_83 h.2)])])
              refine lv_iinc (v := nI (k + 1)) (lv' := [(4, .int (nI (k + 1))), (0, .ref (b 0)), (1, .int (nI (j + 1))), (2, .int (nI (rUpr (a 7) (u 4) n j))), (3, .int (rGap (a 7) (a 8) (a 9) (a 13) (a 12) n (nI (j + 1)) (nI (rUpr (a 7) (u 4) n j)) (u 2) (u 3) (k + 1)))]) hx hb dX6_gapAbove_134 hl (k := 4) rfl (x_inc k) (by decide) rfl (fun ls hl => ?_)
              refine lv_goto (tgt := 44) hx hb dX6_gapAbove_137 (by decide) ?_
              exact ihk (by omega) () _ trivial (lv_sub hl [1, 2, 3, 4, 0] rfl)
            · refine lv_aload_n hx hb dX6_gapAbove_86 rfl (lv_at hl 0 rfl) ?_
              refine lv_iload_n hx hb dX6_gapAbove_87 rfl (lv_at hl 1 rfl) ?_
              refine lv_aload_n hx hb dX6_gapAbove_88 rfl (lv_at hl 0 rfl) ?_
              refine va_get (D := D) (ci := 6) (v := .ref (b 9)) (C := RX6) (T := TX6) (N := 23) hx hb hts hiX60 hown hK.1 hP 0 rfl rfl 12 (by decide) f2 (fun _ h9 => h9) rfl dX6_gapAbove_89 ?_
              refine lv_iload hx hb dX6_gapAbove_92 (lv_at hl 4 rfl) ?_
              refine x_iald hx hb hK hP 9 0 rfl rfl (k := k) (by omega) (by decide) dX6_gapAbove_94 ?_
              refine rcVi (As := [.int (nI (j + 1)), .int (a 9 k)]) (rest := []) ⟨hx, hb, hml, hown, hts⟩ (k6_high l D b cA u n m a (nI (j + 1)) (a 9 k) (by omega)) (cwV 2 hts gX6_gapAbove_X6_high rfl rfl rfl (by decide +kernel) ⟨Nat.le_of_ble_eq_true rfl, Nat.le_of_ble_eq_true rfl⟩) (va_recv hK.1 hP (ci := 6) (q0 := 0) rfl rfl) hP hK rfl hl.1 rfl (Nat.le_of_ble_eq_true rfl) dX6_gapAbove_95 ⟨Nat.zero_le _, Nat.zero_le _⟩ ?_
              refine lv_bipush (v := 8) hx hb dX6_gapAbove_98 (by decide) ?_
              refine lv_isub hx hb dX6_gapAbove_100 ?_
              refine lv_aload_n hx hb dX6_gapAbove_101 rfl (lv_at hl 0 rfl) ?_
              refine lv_iload_n hx hb dX6_gapAbove_102 rfl (lv_at hl 2 rfl) ?_
              refine lv_aload_n hx hb dX6_gapAbove_103 rfl (lv_at hl 0 rfl) ?_
              refine va_get (D := D) (ci := 6) (v := .ref (b 9)) (C := RX6) (T := TX6) (N := 23) hx hb hts hiX60 hown hK.1 hP 0 rfl rfl 12 (by decide) f2 (fun _ h9 => h9) rfl dX6_gapAbove_104 ?_
              refine lv_iload hx hb dX6_gapAbove_107 (lv_at hl 4 rfl) ?_
              refine x_iald hx hb hK hP 9 0 rfl rfl (k := k) (by omega) (by decide) dX6_gapAbove_109 ?_
              refine rcVi (As := [.int (nI (rUpr (a 7) (u 4) n j)), .int (a 9 k)]) (rest := [.int ((rHigh (a 7) (a 8) (a 9) (a 13) (a 12) n (nI (j + 1)) (a 9 k) n) - 8)]) ⟨hx, hb, hml, hown, hts⟩ (k6_low l D b cA u n m a (nI (rUpr (a 7) (u 4) n j)) (a 9 k) (by omega)) (cwV 2 hts gX6_gapAbove_X6_low rfl rfl rfl (by decide +kernel) ⟨Nat.le_of_ble_eq_true rfl, Nat.le_of_ble_eq_true rfl⟩) (va_recv hK.1 hP (ci := 6) (q0 := 0) rfl rfl) hP hK rfl hl.1 rfl (Nat.le_of_ble_eq_true rfl) dX6_gapAbove_110 ⟨Nat.zero_le _, Nat.zero_le _⟩ ?_
              refine lv_isub hx hb dX6_gapAbove_113 ?_
              refine lv_aload_n hx hb dX6_gapAbove_114 rfl (lv_at hl 0 rfl) ?_
              refine va_get (D := D) (ci := 6) (v := .int (u 2)) (C := RX6) (T := TX6) (N := 23) hx hb hts hiX60 hown hK.1 hP 0 rfl rfl 16 (by decide) f3 (fun _ h9 => h9) rfl dX6_gapAbove_115 ?_
              refine lv_iadd hx hb dX6_gapAbove_118 ?_
              refine lv_istore (lv' := [(5, .int ((((rHigh (a 7) (a 8) (a 9) (a 13) (a 12) n (nI (j + 1)) (a 9 k) n) - 8) - (rLow (a 7) (a 8) (a 9) (a 13) (a 12) n (nI (rUpr (a 7) (u 4) n j)) (a 9 k) n)) + (u 2))), (0, .ref (b 0)), (1, .int (nI (j + 1))), (2, .int (nI (rUpr (a 7) (u 4) n j))), (3, .int (rGap (a 7) (a 8) (a 9) (a 13) (a 12) n (nI (j + 1)) (nI (rUpr (a 7) (u 4) n j)) (u 2) (u 3) k)), (4, .int (nI k))]) hx hb dX6_gapAbove_119 hl (by decide) rfl (fun ls hl => ?_)
              refine lv_iload hx hb dX6_gapAbove_121 (lv_at hl 0 rfl) ?_
              refine lv_iload_n hx hb dX6_gapAbove_123 rfl (lv_at hl 4 rfl) ?_
              refine x_ile (tgt := 132) hx hb dX6_gapAbove_124 (by decide) (fun c_124 => ?_) (fun c_124 => ?_)
              · refine lv_iload_n hx hb dX6_gapAbove_132 rfl (lv_at hl 4 rfl) ?_
                refine x_tp (y := rGap (a 7) (a 8) (a 9) (a 13) (a 12) n (nI (j + 1)) (nI (rUpr (a 7) (u 4) n j)) (u 2) (u 3) (k + 1)) (by rw [rGap, if_pos ⟨c_72, c_83⟩, mxI_f c_124]) ?_
                refine lv_istore_n (lv' := [(3, .int (rGap (a 7) (a 8) (a 9) (a 13) (a 12) n (nI (j + 1)) (nI (rUpr (a 7) (u 4) n j)) (u 2) (u 3) (k + 1))), (5, .int ((((rHigh (a 7) (a 8) (a 9) (a 13) (a 12) n (nI (j + 1)) (a 9 k) n) - 8) - (rLow (a 7) (a 8) (a 9) (a 13) (a 12) n (nI (rUpr (a 7) (u 4) n j)) (a 9 k) n)) + (u 2))), (0, .ref (b 0)), (1, .int (nI (j + 1))), (2, .int (nI (rUpr (a 7) (u 4) n j))), (4, .int (nI k))]) hx hb dX6_gapAbove_133 rfl hl (by decide) rfl (fun ls hl => ?_)
                refine lv_iinc (v := nI (k + 1)) (lv' := [(4, .int (nI (k + 1))), (3, .int (rGap (a 7) (a 8) (a 9) (a 13) (a 12) n (nI (j + 1)) (nI (rUpr (a 7) (u 4) n j)) (u 2) (u 3) (k + 1))), (5, .int ((((rHigh (a 7) (a 8) (a 9) (a 13) (a 12) n (nI (j + 1)) (a 9 k) n) - 8) - (rLow (a 7) (a 8) (a 9) (a 13) (a 12) n (nI (rUpr (a 7) (u 4) n j)) (a 9 k) n)) + (u 2))), (0, .ref (b 0)), (1, .int (nI (j + 1))), (2, .int (nI (rUpr (a 7) (u 4) n j)))]) hx hb dX6_gapAbove_134 hl (k := 5) rfl (x_inc k) (by decide) rfl (fun ls hl => ?_)
                refine lv_goto (tgt := 44) hx hb dX6_gapAbove_137 (by decide) ?_
                exact ihk (by omega) () _ trivial (lv_sub hl [3, 4, 5, 1, 0] rfl)
              · refine lv_iload hx hb dX6_gapAbove_127 (lv_at hl 0 rfl) ?_
                refine lv_goto (tgt := 133) hx hb dX6_gapAbove_129 (by decide) ?_
                refine x_tp (y := rGap (a 7) (a 8) (a 9) (a 13) (a 12) n (nI (j + 1)) (nI (rUpr (a 7) (u 4) n j)) (u 2) (u 3) (k + 1)) (by rw [rGap, if_pos ⟨c_72, c_83⟩, mxI_t c_124]) ?_
                refine lv_istore_n (lv' := [(3, .int (rGap (a 7) (a 8) (a 9) (a 13) (a 12) n (nI (j + 1)) (nI (rUpr (a 7) (u 4) n j)) (u 2) (u 3) (k + 1))), (5, .int ((((rHigh (a 7) (a 8) (a 9) (a 13) (a 12) n (nI (j + 1)) (a 9 k) n) - 8) - (rLow (a 7) (a 8) (a 9) (a 13) (a 12) n (nI (rUpr (a 7) (u 4) n j)) (a 9 k) n)) + (u 2))), (0, .ref (b 0)), (1, .int (nI (j + 1))), (2, .int (nI (rUpr (a 7) (u 4) n j))), (4, .int (nI k))]) hx hb dX6_gapAbove_133 rfl hl (by decide) rfl (fun ls hl => ?_)
                refine lv_iinc (v := nI (k + 1)) (lv' := [(4, .int (nI (k + 1))), (3, .int (rGap (a 7) (a 8) (a 9) (a 13) (a 12) n (nI (j + 1)) (nI (rUpr (a 7) (u 4) n j)) (u 2) (u 3) (k + 1))), (5, .int ((((rHigh (a 7) (a 8) (a 9) (a 13) (a 12) n (nI (j + 1)) (a 9 k) n) - 8) - (rLow (a 7) (a 8) (a 9) (a 13) (a 12) n (nI (rUpr (a 7) (u 4) n j)) (a 9 k) n)) + (u 2))), (0, .ref (b 0)), (1, .int (nI (j + 1))), (2, .int (nI (rUpr (a 7) (u 4) n j)))]) hx hb dX6_gapAbove_134 hl (k := 5) rfl (x_inc k) (by decide) rfl (fun ls hl => ?_)
                refine lv_goto (tgt := 44) hx hb dX6_gapAbove_137 (by decide) ?_
                exact ihk (by omega) () _ trivial (lv_sub hl [3, 4, 5, 1, 0] rfl)
    refine lv_aload_n hx hb dX6_gapAbove_18 rfl (lv_at hl 0 rfl) ?_
    refine va_get (D := D) (ci := 6) (v := .int (u 3)) (C := RX6) (T := TX6) (N := 23) hx hb hts hiX60 hown hK.1 hP 0 rfl rfl 17 (by decide) f4 (fun _ h9 => h9) rfl dX6_gapAbove_19 ?_
    refine lv_aload_n hx hb dX6_gapAbove_22 rfl (lv_at hl 0 rfl) ?_
    refine va_get (D := D) (ci := 6) (v := .int (u 2)) (C := RX6) (T := TX6) (N := 23) hx hb hts hiX60 hown hK.1 hP 0 rfl rfl 16 (by decide) f3 (fun _ h9 => h9) rfl dX6_gapAbove_23 ?_
    refine x_ile (tgt := 36) hx hb dX6_gapAbove_26 (by decide) (fun c_26 => ?_) (fun c_26 => ?_)
    · refine lv_aload_n hx hb dX6_gapAbove_36 rfl (lv_at hl 0 rfl) ?_
      refine va_get (D := D) (ci := 6) (v := .int (u 2)) (C := RX6) (T := TX6) (N := 23) hx hb hts hiX60 hown hK.1 hP 0 rfl rfl 16 (by decide) f3 (fun _ h9 => h9) rfl dX6_gapAbove_37 ?_
      refine x_tp (y := rGap (a 7) (a 8) (a 9) (a 13) (a 12) n (nI (j + 1)) (nI (rUpr (a 7) (u 4) n j)) (u 2) (u 3) 0) (by simp [rGap, mxI_f c_26]) ?_
      exact j_40 _ (lv_sub hl [0, 1, 2] rfl)
    · refine lv_aload_n hx hb dX6_gapAbove_29 rfl (lv_at hl 0 rfl) ?_
      refine va_get (D := D) (ci := 6) (v := .int (u 3)) (C := RX6) (T := TX6) (N := 23) hx hb hts hiX60 hown hK.1 hP 0 rfl rfl 17 (by decide) f4 (fun _ h9 => h9) rfl dX6_gapAbove_30 ?_
      refine lv_goto (tgt := 40) hx hb dX6_gapAbove_33 (by decide) ?_
      refine x_tp (y := rGap (a 7) (a 8) (a 9) (a 13) (a 12) n (nI (j + 1)) (nI (rUpr (a 7) (u 4) n j)) (u 2) (u 3) 0) (by simp [rGap, mxI_t c_26]) ?_
      exact j_40 _ (lv_sub hl [0, 1, 2] rfl)
  · have hg3 : 0 < g := Nat.pos_of_ne_zero (fun q => by subst q; exact absurd c_9.1.2 (by decide))
    refine lv_iinc (v := (nI g) + (-1)) (lv' := [(2, .int ((nI g) + (-1))), (0, .ref (b 0)), (1, .int (nI (j + 1)))]) hx hb dX6_gapAbove_12 hl (k := 2) rfl rfl (by decide) rfl (fun ls hl => ?_)
    have hl := lv_cast (l' := [(2, .int (nI (g - 1))), (0, .ref (b 0)), (1, .int (nI (j + 1)))]) hl (by rw [show (nI g) + (-1) = nI (g - 1) from (sb_m1 hg3)])
    refine lv_goto (tgt := 4) hx hb dX6_gapAbove_15 (by decide) ?_
    exact ihi (by omega) (g - 1) _ ⟨by omega, by rw [← hg2]; obtain ⟨q, rfl⟩ : ∃ q, g = q + 1 := ⟨g - 1, by omega⟩; rw [rUpr, if_pos c_9]; rfl⟩ (lv_sub hl [1, 2, 0] rfl)

set_option maxHeartbeats 4000000 in
set_option maxRecDepth 100000 in
theorem k6_placeOf (l : Launch) (D : va_G) (b : Nat → Nat) (cA : ClassId) (u : Nat → Int32) (n m : Nat) (a : Nat → Nat → Int32) (j : Nat) (hj : j < 4) (hn : n ≤ 60) : Met l yX6_placeOf wsX6_placeOf ({ frames := 7, cells := 0, slots := 0, locals := 173 }) (rPc D (mW b cA u n m a) [(cA, .int)] [.ref (b 0), .int (nI j)]) (vp_Sl (fun r => r = (u 1).toInt64 * rPl (a 7) (a 8) (a 9) (a 13) (a 12) n (u 2) (u 3) (u 4) j)) 0 0 (fun _ => False) := by
  refine r_head (C := RX6) (cc := cX6_placeOf) (maxL := 5) (ret := (some .long)) [(0, .ref (b 0)), (1, .int (nI j))] (by decide) rfl rfl (Nat.le_of_ble_eq_true rfl) rfl ?_
  intro p e s mi below meth c hx hb hr hlk hml hown hts hP hK ls hl
  have hiX60 : ∀ w ∈ wsX60, w ∈ wsX6_placeOf := fun w h => List.mem_cons_of_mem _ (List.mem_append_right _ h)
  have f0 := hts (.fieldLink RX6 66 "StaffHeadsModel" "unit" "I") (List.mem_of_getElem? (i := 1) rfl)
  refine lv_lconst (v := 0) hx hb dX6_placeOf_0 (by decide) ?_
  refine x_tpl (y := rPl (a 7) (a 8) (a 9) (a 13) (a 12) n (u 2) (u 3) (u 4) 0) rfl ?_
  refine lv_lstore_n (lv' := [(2, .long (rPl (a 7) (a 8) (a 9) (a 13) (a 12) n (u 2) (u 3) (u 4) 0)), (0, .ref (b 0)), (1, .int (nI j))]) hx hb dX6_placeOf_1 rfl hl (by decide) rfl (fun ls hl => ?_)
  refine lv_iconst (v := 1) hx hb dX6_placeOf_2 (by decide) ?_
  refine x_tp (y := nI (0 + 1)) (show (1 : Int32) = nI (0 + 1) from rfl) ?_
  refine lv_istore (lv' := [(4, .int (nI (0 + 1))), (2, .long (rPl (a 7) (a 8) (a 9) (a 13) (a 12) n (u 2) (u 3) (u 4) 0)), (0, .ref (b 0)), (1, .int (nI j))]) hx hb dX6_placeOf_3 hl (by decide) rfl (fun ls hl => ?_)
  refine lpR (G := fun ls => W p l e _ s mi _ below meth c _ _ _ _ _ (F0 mi 5 ls [])) 5 j (fun k (_ : Unit) => [(0, .ref (b 0)), (1, .int (nI j)), (2, .long (rPl (a 7) (a 8) (a 9) (a 13) (a 12) n (u 2) (u 3) (u 4) k)), (4, .int (nI (k + 1)))]) (fun _ _ => True) ?_ 0 () (Nat.zero_le _) trivial (lv_sub hl [2, 3, 1, 0] rfl)
  clear hl ls
  intro k gu hk hkI ls hl ihk
  refine lv_iload hx hb dX6_placeOf_5 (lv_at hl 3 rfl) ?_
  refine lv_iload_n hx hb dX6_placeOf_7 rfl (lv_at hl 1 rfl) ?_
  refine x_ngt (tgt := 43) hx hb dX6_placeOf_8 (by decide) (by omega) (by omega) (fun c_8 => ?_) (fun c_8 => ?_)
  · obtain rfl : j = k := by omega
    refine lv_aload_n hx hb dX6_placeOf_43 rfl (lv_at hl 0 rfl) ?_
    refine va_get (D := D) (ci := 6) (v := .int (u 1)) (C := RX6) (T := TX6) (N := 23) hx hb hts hiX60 hown hK.1 hP 0 rfl rfl 1 (by decide) f0 (fun _ h9 => h9) rfl dX6_placeOf_44 ?_
    refine lv_i2l (v := (u 1).toInt64) hx hb dX6_placeOf_47 rfl ?_
    refine lv_lload_n hx hb dX6_placeOf_48 rfl (lv_at hl 2 rfl) ?_
    refine lv_lmul hx hb dX6_placeOf_49 ?_
    exact r_lret hx hb hr hlk rfl dX6_placeOf_50
  · refine lv_lload_n hx hb dX6_placeOf_11 rfl (lv_at hl 2 rfl) ?_
    refine lv_aload_n hx hb dX6_placeOf_12 rfl (lv_at hl 0 rfl) ?_
    refine lv_iload hx hb dX6_placeOf_13 (lv_at hl 3 rfl) ?_
    refine rcVi (As := [.int (nI (k + 1))]) (rest := [.long (rPl (a 7) (a 8) (a 9) (a 13) (a 12) n (u 2) (u 3) (u 4) k)]) ⟨hx, hb, hml, hown, hts⟩ (k6_isHidden l D b cA u n m a (nI (k + 1)) (by omega)) (cwV 1 hts gX6_placeOf_X6_isHidden rfl rfl rfl (by decide +kernel) ⟨Nat.le_of_ble_eq_true rfl, Nat.le_of_ble_eq_true rfl⟩) (va_recv hK.1 hP (ci := 6) (q0 := 0) rfl rfl) hP hK rfl hl.1 rfl (Nat.le_of_ble_eq_true rfl) dX6_placeOf_15 ⟨Nat.zero_le _, Nat.zero_le _⟩ ?_
    refine x_ifeq (tgt := 25) hx hb dX6_placeOf_18 (by decide) (fun c_18 => ?_) (fun c_18 => ?_)
    · refine lv_aload_n hx hb dX6_placeOf_25 rfl (lv_at hl 0 rfl) ?_
      refine lv_iload hx hb dX6_placeOf_26 (lv_at hl 3 rfl) ?_
      refine rcVi (As := [.int (nI (k + 1))]) (rest := [.long (rPl (a 7) (a 8) (a 9) (a 13) (a 12) n (u 2) (u 3) (u 4) k)]) ⟨hx, hb, hml, hown, hts⟩ (k6_gapAbove l D b cA u n m a k (by omega) (by omega)) (cwV 1 hts gX6_placeOf_X6_gapAbove rfl rfl rfl (by decide +kernel) ⟨Nat.le_of_ble_eq_true rfl, Nat.le_of_ble_eq_true rfl⟩) (va_recv hK.1 hP (ci := 6) (q0 := 0) rfl rfl) hP hK rfl hl.1 rfl (Nat.le_of_ble_eq_true rfl) dX6_placeOf_28 ⟨Nat.zero_le _, Nat.zero_le _⟩ ?_
      refine lv_bipush (v := 8) hx hb dX6_placeOf_31 (by decide) ?_
      refine lv_iadd hx hb dX6_placeOf_33 ?_
      refine lv_i2l (v := ((rGapA (a 7) (a 8) (a 9) (a 13) (a 12) n (u 2) (u 3) (u 4) k) + 8).toInt64) hx hb dX6_placeOf_34 rfl ?_
      refine lv_ladd hx hb dX6_placeOf_35 ?_
      refine x_tpl (y := rPl (a 7) (a 8) (a 9) (a 13) (a 12) n (u 2) (u 3) (u 4) (k + 1)) (by simp only [rPl, if_neg c_18]) ?_
      refine lv_lstore_n (lv' := [(2, .long (rPl (a 7) (a 8) (a 9) (a 13) (a 12) n (u 2) (u 3) (u 4) (k + 1))), (0, .ref (b 0)), (1, .int (nI j)), (4, .int (nI (k + 1)))]) hx hb dX6_placeOf_36 rfl hl (by decide) rfl (fun ls hl => ?_)
      refine lv_iinc (v := nI (k + 1 + 1)) (lv' := [(4, .int (nI (k + 1 + 1))), (2, .long (rPl (a 7) (a 8) (a 9) (a 13) (a 12) n (u 2) (u 3) (u 4) (k + 1))), (0, .ref (b 0)), (1, .int (nI j))]) hx hb dX6_placeOf_37 hl (k := 3) rfl (x_inc (k + 1)) (by decide) rfl (fun ls hl => ?_)
      refine lv_goto (tgt := 5) hx hb dX6_placeOf_40 (by decide) ?_
      exact ihk (by omega) () _ trivial (lv_sub hl [2, 3, 1, 0] rfl)
    · refine lv_lconst (v := 0) hx hb dX6_placeOf_21 (by decide) ?_
      refine lv_goto (tgt := 35) hx hb dX6_placeOf_22 (by decide) ?_
      refine lv_ladd hx hb dX6_placeOf_35 ?_
      refine x_tpl (y := rPl (a 7) (a 8) (a 9) (a 13) (a 12) n (u 2) (u 3) (u 4) (k + 1)) (by simp only [rPl, if_pos c_18]) ?_
      refine lv_lstore_n (lv' := [(2, .long (rPl (a 7) (a 8) (a 9) (a 13) (a 12) n (u 2) (u 3) (u 4) (k + 1))), (0, .ref (b 0)), (1, .int (nI j)), (4, .int (nI (k + 1)))]) hx hb dX6_placeOf_36 rfl hl (by decide) rfl (fun ls hl => ?_)
      refine lv_iinc (v := nI (k + 1 + 1)) (lv' := [(4, .int (nI (k + 1 + 1))), (2, .long (rPl (a 7) (a 8) (a 9) (a 13) (a 12) n (u 2) (u 3) (u 4) (k + 1))), (0, .ref (b 0)), (1, .int (nI j))]) hx hb dX6_placeOf_37 hl (k := 3) rfl (x_inc (k + 1)) (by decide) rfl (fun ls hl => ?_)
      refine lv_goto (tgt := 5) hx hb dX6_placeOf_40 (by decide) ?_
      exact ihk (by omega) () _ trivial (lv_sub hl [2, 3, 1, 0] rfl)

set_option maxHeartbeats 4000000 in
set_option maxRecDepth 100000 in
theorem k6_areShared (l : Launch) (D : va_G) (b : Nat → Nat) (cA : ClassId) (u : Nat → Int32) (n m : Nat) (a : Nat → Nat → Int32) (x y : Nat) (hx0 : x < 60) (hy0 : y < 60) (hn : n ≤ 60) : Met l yX6_areShared wsX6_areShared ({ frames := 5, cells := 0, slots := 0, locals := 122 }) (rPc D (mW b cA u n m a) [(cA, .int)] [.ref (b 0), .int (nI x), .int (nI y)]) (vp_Si (fun r => r = bv (rSh (a 7) (a 8) (a 9) (a 13) (a 12) (a 11) n x y))) 0 0 (fun _ => False) := by
  refine r_head (C := RX6) (cc := cX6_areShared) (maxL := 3) (ret := (some .boolean)) [(0, .ref (b 0)), (1, .int (nI x)), (2, .int (nI y))] (by decide) rfl rfl (Nat.le_of_ble_eq_true rfl) rfl ?_
  intro p e s mi below meth c hx hb hr hlk hml hown hts hP hK ls hl
  have hiX60 : ∀ w ∈ wsX60, w ∈ wsX6_areShared := fun w h => List.mem_cons_of_mem _ (List.mem_append_right _ h)
  have f0 := hts (.fieldLink RX6 28 "StaffHeadsModel" "staffOf" "[I") (List.mem_of_getElem? (i := 1) rfl)
  have f1 := hts (.fieldLink RX6 34 "StaffHeadsModel" "tickOf" "[I") (List.mem_of_getElem? (i := 2) rfl)
  have f2 := hts (.fieldLink RX6 43 "StaffHeadsModel" "headOf" "[I") (List.mem_of_getElem? (i := 3) rfl)
  have f3 := hts (.fieldLink RX6 40 "StaffHeadsModel" "signOf" "[I") (List.mem_of_getElem? (i := 4) rfl)
  refine lv_aload_n hx hb dX6_areShared_0 rfl (lv_at hl 0 rfl) ?_
  refine lv_iload_n hx hb dX6_areShared_1 rfl (lv_at hl 2 rfl) ?_
  refine lv_aload_n hx hb dX6_areShared_2 rfl (lv_at hl 0 rfl) ?_
  refine va_get (D := D) (ci := 6) (v := .ref (b 7)) (C := RX6) (T := TX6) (N := 23) hx hb hts hiX60 hown hK.1 hP 0 rfl rfl 10 (by decide) f0 (fun _ h9 => h9) rfl dX6_areShared_3 ?_
  refine lv_iload_n hx hb dX6_areShared_6 rfl (lv_at hl 1 rfl) ?_
  refine x_iald hx hb hK hP 7 0 rfl rfl (k := x) (by omega) (by decide) dX6_areShared_7 ?_
  refine lv_aload_n hx hb dX6_areShared_8 rfl (lv_at hl 0 rfl) ?_
  refine va_get (D := D) (ci := 6) (v := .ref (b 9)) (C := RX6) (T := TX6) (N := 23) hx hb hts hiX60 hown hK.1 hP 0 rfl rfl 12 (by decide) f1 (fun _ h9 => h9) rfl dX6_areShared_9 ?_
  refine lv_iload_n hx hb dX6_areShared_12 rfl (lv_at hl 1 rfl) ?_
  refine x_iald hx hb hK hP 9 0 rfl rfl (k := x) (by omega) (by decide) dX6_areShared_13 ?_
  refine rcVi (As := [.int (nI y), .int (a 7 x), .int (a 9 x)]) (rest := []) ⟨hx, hb, hml, hown, hts⟩ (k6_isAt l D b cA u n m a y (a 7 x) (a 9 x) (by omega)) (cwV 3 hts gX6_areShared_X6_isAt rfl rfl rfl (by decide +kernel) ⟨Nat.le_of_ble_eq_true rfl, Nat.le_of_ble_eq_true rfl⟩) (va_recv hK.1 hP (ci := 6) (q0 := 0) rfl rfl) hP hK rfl hl.1 rfl (Nat.le_of_ble_eq_true rfl) dX6_areShared_14 ⟨Nat.zero_le _, Nat.zero_le _⟩ ?_
  refine x_ifeq (tgt := 80) hx hb dX6_areShared_17 (by decide) (fun c_17 => ?_) (fun c_17 => ?_)
  · refine lv_iconst (v := 0) hx hb dX6_areShared_80 (by decide) ?_
    exact r_zret hx hb hr hlk rfl ((bv_f (fun h => c_17 h.1)).symm) dX6_areShared_81
  · refine lv_aload_n hx hb dX6_areShared_20 rfl (lv_at hl 0 rfl) ?_
    refine lv_iload_n hx hb dX6_areShared_21 rfl (lv_at hl 1 rfl) ?_
    refine rcVi (As := [.int (nI x)]) (rest := []) ⟨hx, hb, hml, hown, hts⟩ (k6_step l D b cA u n m a x (by omega)) (cwV 1 hts gX6_areShared_X6_step rfl rfl rfl (by decide +kernel) ⟨Nat.le_of_ble_eq_true rfl, Nat.le_of_ble_eq_true rfl⟩) (va_recv hK.1 hP (ci := 6) (q0 := 0) rfl rfl) hP hK rfl hl.1 rfl (Nat.le_of_ble_eq_true rfl) dX6_areShared_22 ⟨Nat.zero_le _, Nat.zero_le _⟩ ?_
    refine lv_aload_n hx hb dX6_areShared_25 rfl (lv_at hl 0 rfl) ?_
    refine lv_iload_n hx hb dX6_areShared_26 rfl (lv_at hl 2 rfl) ?_
    refine rcVi (As := [.int (nI y)]) (rest := [.int (a 13 x)]) ⟨hx, hb, hml, hown, hts⟩ (k6_step l D b cA u n m a y (by omega)) (cwV 1 hts gX6_areShared_X6_step rfl rfl rfl (by decide +kernel) ⟨Nat.le_of_ble_eq_true rfl, Nat.le_of_ble_eq_true rfl⟩) (va_recv hK.1 hP (ci := 6) (q0 := 0) rfl rfl) hP hK rfl hl.1 rfl (Nat.le_of_ble_eq_true rfl) dX6_areShared_27 ⟨Nat.zero_le _, Nat.zero_le _⟩ ?_
    refine lv_icmp_ne (tgt := 80) hx hb dX6_areShared_30 (by decide) (fun c_30 => ?_) (fun c_30 => ?_)
    · refine lv_iconst (v := 0) hx hb dX6_areShared_80 (by decide) ?_
      exact r_zret hx hb hr hlk rfl ((bv_f (fun h => c_30 h.2.1)).symm) dX6_areShared_81
    · refine lv_aload_n hx hb dX6_areShared_33 rfl (lv_at hl 0 rfl) ?_
      refine va_get (D := D) (ci := 6) (v := .ref (b 12)) (C := RX6) (T := TX6) (N := 23) hx hb hts hiX60 hown hK.1 hP 0 rfl rfl 15 (by decide) f2 (fun _ h9 => h9) rfl dX6_areShared_34 ?_
      refine lv_iload_n hx hb dX6_areShared_37 rfl (lv_at hl 1 rfl) ?_
      refine x_iald hx hb hK hP 12 0 rfl rfl (k := x) (by omega) (by decide) dX6_areShared_38 ?_
      refine lv_aload_n hx hb dX6_areShared_39 rfl (lv_at hl 0 rfl) ?_
      refine va_get (D := D) (ci := 6) (v := .ref (b 12)) (C := RX6) (T := TX6) (N := 23) hx hb hts hiX60 hown hK.1 hP 0 rfl rfl 15 (by decide) f2 (fun _ h9 => h9) rfl dX6_areShared_40 ?_
      refine lv_iload_n hx hb dX6_areShared_43 rfl (lv_at hl 2 rfl) ?_
      refine x_iald hx hb hK hP 12 0 rfl rfl (k := y) (by omega) (by decide) dX6_areShared_44 ?_
      refine lv_icmp_ne (tgt := 80) hx hb dX6_areShared_45 (by decide) (fun c_45 => ?_) (fun c_45 => ?_)
      · refine lv_iconst (v := 0) hx hb dX6_areShared_80 (by decide) ?_
        exact r_zret hx hb hr hlk rfl ((bv_f (fun h => c_45 h.2.2.1)).symm) dX6_areShared_81
      · refine lv_aload_n hx hb dX6_areShared_48 rfl (lv_at hl 0 rfl) ?_
        refine va_get (D := D) (ci := 6) (v := .ref (b 11)) (C := RX6) (T := TX6) (N := 23) hx hb hts hiX60 hown hK.1 hP 0 rfl rfl 14 (by decide) f3 (fun _ h9 => h9) rfl dX6_areShared_49 ?_
        refine lv_iload_n hx hb dX6_areShared_52 rfl (lv_at hl 1 rfl) ?_
        refine x_iald hx hb hK hP 11 0 rfl rfl (k := x) (by omega) (by decide) dX6_areShared_53 ?_
        refine lv_aload_n hx hb dX6_areShared_54 rfl (lv_at hl 0 rfl) ?_
        refine va_get (D := D) (ci := 6) (v := .ref (b 11)) (C := RX6) (T := TX6) (N := 23) hx hb hts hiX60 hown hK.1 hP 0 rfl rfl 14 (by decide) f3 (fun _ h9 => h9) rfl dX6_areShared_55 ?_
        refine lv_iload_n hx hb dX6_areShared_58 rfl (lv_at hl 2 rfl) ?_
        refine x_iald hx hb hK hP 11 0 rfl rfl (k := y) (by omega) (by decide) dX6_areShared_59 ?_
        refine lv_icmp_ne (tgt := 80) hx hb dX6_areShared_60 (by decide) (fun c_60 => ?_) (fun c_60 => ?_)
        · refine lv_iconst (v := 0) hx hb dX6_areShared_80 (by decide) ?_
          exact r_zret hx hb hr hlk rfl ((bv_f (fun h => c_60 h.2.2.2.1)).symm) dX6_areShared_81
        · refine lv_aload_n hx hb dX6_areShared_63 rfl (lv_at hl 0 rfl) ?_
          refine lv_iload_n hx hb dX6_areShared_64 rfl (lv_at hl 1 rfl) ?_
          refine rcVi (As := [.int (nI x)]) (rest := []) ⟨hx, hb, hml, hown, hts⟩ (k6_stemOf l D b cA u n m a x (by omega) (by omega)) (cwV 1 hts gX6_areShared_X6_stemOf rfl rfl rfl (by decide +kernel) ⟨Nat.le_of_ble_eq_true rfl, Nat.le_of_ble_eq_true rfl⟩) (va_recv hK.1 hP (ci := 6) (q0 := 0) rfl rfl) hP hK rfl hl.1 rfl (Nat.le_of_ble_eq_true rfl) dX6_areShared_65 ⟨Nat.zero_le _, Nat.zero_le _⟩ ?_
          refine lv_aload_n hx hb dX6_areShared_68 rfl (lv_at hl 0 rfl) ?_
          refine lv_iload_n hx hb dX6_areShared_69 rfl (lv_at hl 2 rfl) ?_
          refine rcVi (As := [.int (nI y)]) (rest := [.int (bv (rUp (a 7) (a 8) (a 9) (a 13) n (a 7 x) (a 9 x) (a 8 x)))]) ⟨hx, hb, hml, hown, hts⟩ (k6_stemOf l D b cA u n m a y (by omega) (by omega)) (cwV 1 hts gX6_areShared_X6_stemOf rfl rfl rfl (by decide +kernel) ⟨Nat.le_of_ble_eq_true rfl, Nat.le_of_ble_eq_true rfl⟩) (va_recv hK.1 hP (ci := 6) (q0 := 0) rfl rfl) hP hK rfl hl.1 rfl (Nat.le_of_ble_eq_true rfl) dX6_areShared_70 ⟨Nat.zero_le _, Nat.zero_le _⟩ ?_
          refine lv_icmp_eq (tgt := 80) hx hb dX6_areShared_73 (by decide) (fun c_73 => ?_) (fun c_73 => ?_)
          · refine lv_iconst (v := 0) hx hb dX6_areShared_80 (by decide) ?_
            exact r_zret hx hb hr hlk rfl ((bv_f (fun h => h.2.2.2.2 c_73)).symm) dX6_areShared_81
          · refine lv_iconst (v := 1) hx hb dX6_areShared_76 (by decide) ?_
            refine lv_goto (tgt := 81) hx hb dX6_areShared_77 (by decide) ?_
            exact r_zret hx hb hr hlk rfl ((bv_t ⟨c_17, c_30, c_45, c_60, c_73⟩).symm) dX6_areShared_81

set_option maxHeartbeats 4000000 in
set_option maxRecDepth 100000 in
theorem k6_liesOver (l : Launch) (D : va_G) (b : Nat → Nat) (cA : ClassId) (u : Nat → Int32) (n m : Nat) (a : Nat → Nat → Int32) (p1 p2 p3 : Int32) (hn : n ≤ 60) : Met l yX6_liesOver wsX6_liesOver ({ frames := 6, cells := 0, slots := 0, locals := 144 }) (rPc D (mW b cA u n m a) [(cA, .int)] [.ref (b 0), .int p1, .int p2, .int p3]) (vp_Si (fun r => r = bv (rOver (a 7) (a 8) (a 9) (a 13) (a 12) (a 11) (a 15) n p1 p2 p3))) 0 0 (fun _ => False) := by
  refine r_head (C := RX6) (cc := cX6_liesOver) (maxL := 7) (ret := (some .boolean)) [(0, .ref (b 0)), (1, .int p1), (2, .int p2), (3, .int p3)] (by decide) rfl rfl (Nat.le_of_ble_eq_true rfl) rfl ?_
  intro p e s mi below meth c hx hb hr hlk hml hown hts hP hK ls hl
  have hiX60 : ∀ w ∈ wsX60, w ∈ wsX6_liesOver := fun w h => List.mem_cons_of_mem _ (List.mem_append_right _ h)
  have f0 := hts (.fieldLink RX6 76 "StaffHeadsModel" "notes" "I") (List.mem_of_getElem? (i := 1) rfl)
  have f1 := hts (.fieldLink RX6 31 "StaffHeadsModel" "voiceOf" "[I") (List.mem_of_getElem? (i := 2) rfl)
  have f2 := hts (.fieldLink RX6 59 "StaffHeadsModel" "columnOf" "[I") (List.mem_of_getElem? (i := 3) rfl)
  have f3 := hts (.fieldLink RX6 53 "StaffHeadsModel" "stepOf" "[I") (List.mem_of_getElem? (i := 4) rfl)
  refine lv_iconst (v := 0) hx hb dX6_liesOver_0 (by decide) ?_
  refine x_tp (y := nI 0) nI_0.symm ?_
  refine lv_istore (lv' := [(4, .int (nI 0)), (0, .ref (b 0)), (1, .int p1), (2, .int p2), (3, .int p3)]) hx hb dX6_liesOver_1 hl (by decide) rfl (fun ls hl => ?_)
  refine lpR (G := fun ls => W p l e _ s mi _ below meth c _ _ _ _ _ (F0 mi 3 ls [])) 7 n (fun x (_ : Unit) => [(0, .ref (b 0)), (1, .int p1), (2, .int p2), (3, .int p3), (4, .int (nI x))]) (fun x _ => ∀ z, z < x → ∀ y, y < n → ¬ rPair (a 7) (a 8) (a 9) (a 13) (a 12) (a 11) (a 15) n p1 p2 p3 z y) ?_ 0 () (Nat.zero_le _) (fun z h => absurd h (Nat.not_lt_zero z)) (lv_sub hl [1, 2, 3, 4, 0] rfl)
  clear hl ls
  intro x gu hx1 hxI ls hl ihx
  refine lv_iload hx hb dX6_liesOver_3 (lv_at hl 4 rfl) ?_
  refine lv_aload_n hx hb dX6_liesOver_5 rfl (lv_at hl 0 rfl) ?_
  refine va_get (D := D) (ci := 6) (v := .int (nI n)) (C := RX6) (T := TX6) (N := 23) hx hb hts hiX60 hown hK.1 hP 0 rfl rfl 9 (by decide) f0 (fun _ h9 => h9) rfl dX6_liesOver_6 ?_
  refine x_nge (tgt := 129) hx hb dX6_liesOver_9 (by decide) (by omega) (by omega) (fun c_9 => ?_) (fun c_9 => ?_)
  · obtain rfl : n = x := by omega
    refine lv_iconst (v := 0) hx hb dX6_liesOver_129 (by decide) ?_
    exact r_zret hx hb hr hlk rfl ((bv_f (fun h => h hxI)).symm) dX6_liesOver_130
  · refine lv_iconst (v := 0) hx hb dX6_liesOver_12 (by decide) ?_
    refine x_tp (y := nI 0) nI_0.symm ?_
    refine lv_istore (lv' := [(5, .int (nI 0)), (0, .ref (b 0)), (1, .int p1), (2, .int p2), (3, .int p3), (4, .int (nI x))]) hx hb dX6_liesOver_13 hl (by decide) rfl (fun ls hl => ?_)
    refine lpR (G := fun ls => W p l e _ s mi _ below meth c _ _ _ _ _ (F0 mi 15 ls [])) 7 n (fun y (_ : Unit) => [(0, .ref (b 0)), (1, .int p1), (2, .int p2), (3, .int p3), (4, .int (nI x)), (5, .int (nI y))]) (fun y _ => ∀ z, z < y → ¬ rPair (a 7) (a 8) (a 9) (a 13) (a 12) (a 11) (a 15) n p1 p2 p3 x z) ?_ 0 () (Nat.zero_le _) (fun z h => absurd h (Nat.not_lt_zero z)) (lv_sub hl [1, 2, 3, 4, 5, 0] rfl)
    clear hl ls
    intro y gu hy1 hyI ls hl ihy
    refine lv_iload hx hb dX6_liesOver_15 (lv_at hl 5 rfl) ?_
    refine lv_aload_n hx hb dX6_liesOver_17 rfl (lv_at hl 0 rfl) ?_
    refine va_get (D := D) (ci := 6) (v := .int (nI n)) (C := RX6) (T := TX6) (N := 23) hx hb hts hiX60 hown hK.1 hP 0 rfl rfl 9 (by decide) f0 (fun _ h9 => h9) rfl dX6_liesOver_18 ?_
    refine x_nge (tgt := 123) hx hb dX6_liesOver_21 (by decide) (by omega) (by omega) (fun c_21 => ?_) (fun c_21 => ?_)
    · obtain rfl : n = y := by omega
      refine lv_iinc (v := nI (x + 1)) (lv' := [(4, .int (nI (x + 1))), (0, .ref (b 0)), (1, .int p1), (2, .int p2), (3, .int p3), (5, .int (nI n))]) hx hb dX6_liesOver_123 hl (k := 4) rfl (x_inc x) (by decide) rfl (fun ls hl => ?_)
      refine lv_goto (tgt := 3) hx hb dX6_liesOver_126 (by decide) ?_
      exact ihx (by omega) () _ (lt_s hxI hyI) (lv_sub hl [1, 2, 3, 4, 0] rfl)
    · refine lv_aload_n hx hb dX6_liesOver_24 rfl (lv_at hl 0 rfl) ?_
      refine lv_iload hx hb dX6_liesOver_25 (lv_at hl 4 rfl) ?_
      refine lv_iload_n hx hb dX6_liesOver_27 rfl (lv_at hl 1 rfl) ?_
      refine lv_iload_n hx hb dX6_liesOver_28 rfl (lv_at hl 2 rfl) ?_
      refine lv_iload_n hx hb dX6_liesOver_29 rfl (lv_at hl 3 rfl) ?_
      refine rcVi (As := [.int (nI x), .int p1, .int p2, .int p3]) (rest := []) ⟨hx, hb, hml, hown, hts⟩ (k6_isIn l D b cA u n m a x p1 p2 p3 (by omega)) (cwV 4 hts gX6_liesOver_X6_isIn rfl rfl rfl (by decide +kernel) ⟨Nat.le_of_ble_eq_true rfl, Nat.le_of_ble_eq_true rfl⟩) (va_recv hK.1 hP (ci := 6) (q0 := 0) rfl rfl) hP hK rfl hl.1 rfl (Nat.le_of_ble_eq_true rfl) dX6_liesOver_30 ⟨Nat.zero_le _, Nat.zero_le _⟩ ?_
      refine x_ifeq (tgt := 117) hx hb dX6_liesOver_33 (by decide) (fun c_33 => ?_) (fun c_33 => ?_)
      · refine lv_iinc (v := nI (y + 1)) (lv' := [(5, .int (nI (y + 1))), (0, .ref (b 0)), (1, .int p1), (2, .int p2), (3, .int p3), (4, .int (nI x))]) hx hb dX6_liesOver_117 hl (k := 5) rfl (x_inc y) (by decide) rfl (fun ls hl => ?_)
        refine lv_goto (tgt := 15) hx hb dX6_liesOver_120 (by decide) ?_
        exact ihy (by omega) () _ (lt_s hyI (fun h => by obtain ⟨g1, g2, g3, g4, g5, g6, g7⟩ := h; simp_all)) (lv_sub hl [1, 2, 3, 4, 5, 0] rfl)
      · refine lv_aload_n hx hb dX6_liesOver_36 rfl (lv_at hl 0 rfl) ?_
        refine lv_iload hx hb dX6_liesOver_37 (lv_at hl 5 rfl) ?_
        refine lv_iload_n hx hb dX6_liesOver_39 rfl (lv_at hl 1 rfl) ?_
        refine lv_iload_n hx hb dX6_liesOver_40 rfl (lv_at hl 2 rfl) ?_
        refine rcVi (As := [.int (nI y), .int p1, .int p2]) (rest := []) ⟨hx, hb, hml, hown, hts⟩ (k6_isAt l D b cA u n m a y p1 p2 (by omega)) (cwV 3 hts gX6_liesOver_X6_isAt rfl rfl rfl (by decide +kernel) ⟨Nat.le_of_ble_eq_true rfl, Nat.le_of_ble_eq_true rfl⟩) (va_recv hK.1 hP (ci := 6) (q0 := 0) rfl rfl) hP hK rfl hl.1 rfl (Nat.le_of_ble_eq_true rfl) dX6_liesOver_41 ⟨Nat.zero_le _, Nat.zero_le _⟩ ?_
        refine x_ifeq (tgt := 117) hx hb dX6_liesOver_44 (by decide) (fun c_44 => ?_) (fun c_44 => ?_)
        · refine lv_iinc (v := nI (y + 1)) (lv' := [(5, .int (nI (y + 1))), (0, .ref (b 0)), (1, .int p1), (2, .int p2), (3, .int p3), (4, .int (nI x))]) hx hb dX6_liesOver_117 hl (k := 5) rfl (x_inc y) (by decide) rfl (fun ls hl => ?_)
          refine lv_goto (tgt := 15) hx hb dX6_liesOver_120 (by decide) ?_
          exact ihy (by omega) () _ (lt_s hyI (fun h => by obtain ⟨g1, g2, g3, g4, g5, g6, g7⟩ := h; simp_all)) (lv_sub hl [1, 2, 3, 4, 5, 0] rfl)
        · refine lv_aload_n hx hb dX6_liesOver_47 rfl (lv_at hl 0 rfl) ?_
          refine va_get (D := D) (ci := 6) (v := .ref (b 8)) (C := RX6) (T := TX6) (N := 23) hx hb hts hiX60 hown hK.1 hP 0 rfl rfl 11 (by decide) f1 (fun _ h9 => h9) rfl dX6_liesOver_48 ?_
          refine lv_iload hx hb dX6_liesOver_51 (lv_at hl 5 rfl) ?_
          refine x_iald hx hb hK hP 8 0 rfl rfl (k := y) (by omega) (by decide) dX6_liesOver_53 ?_
          refine lv_iload_n hx hb dX6_liesOver_54 rfl (lv_at hl 3 rfl) ?_
          refine x_ige (tgt := 117) hx hb dX6_liesOver_55 (by decide) (fun c_55 => ?_) (fun c_55 => ?_)
          · refine lv_iinc (v := nI (y + 1)) (lv' := [(5, .int (nI (y + 1))), (0, .ref (b 0)), (1, .int p1), (2, .int p2), (3, .int p3), (4, .int (nI x))]) hx hb dX6_liesOver_117 hl (k := 5) rfl (x_inc y) (by decide) rfl (fun ls hl => ?_)
            refine lv_goto (tgt := 15) hx hb dX6_liesOver_120 (by decide) ?_
            exact ihy (by omega) () _ (lt_s hyI (fun h => by obtain ⟨g1, g2, g3, g4, g5, g6, g7⟩ := h; simp_all)) (lv_sub hl [1, 2, 3, 4, 5, 0] rfl)
          · refine lv_aload_n hx hb dX6_liesOver_58 rfl (lv_at hl 0 rfl) ?_
            refine va_get (D := D) (ci := 6) (v := .ref (b 15)) (C := RX6) (T := TX6) (N := 23) hx hb hts hiX60 hown hK.1 hP 0 rfl rfl 21 (by decide) f2 (fun _ h9 => h9) rfl dX6_liesOver_59 ?_
            refine lv_iload hx hb dX6_liesOver_62 (lv_at hl 4 rfl) ?_
            refine x_iald hx hb hK hP 15 0 rfl rfl (k := x) (by omega) (by decide) dX6_liesOver_64 ?_
            refine lv_aload_n hx hb dX6_liesOver_65 rfl (lv_at hl 0 rfl) ?_
            refine va_get (D := D) (ci := 6) (v := .ref (b 15)) (C := RX6) (T := TX6) (N := 23) hx hb hts hiX60 hown hK.1 hP 0 rfl rfl 21 (by decide) f2 (fun _ h9 => h9) rfl dX6_liesOver_66 ?_
            refine lv_iload hx hb dX6_liesOver_69 (lv_at hl 5 rfl) ?_
            refine x_iald hx hb hK hP 15 0 rfl rfl (k := y) (by omega) (by decide) dX6_liesOver_71 ?_
            refine lv_icmp_ne (tgt := 117) hx hb dX6_liesOver_72 (by decide) (fun c_72 => ?_) (fun c_72 => ?_)
            · refine lv_iinc (v := nI (y + 1)) (lv' := [(5, .int (nI (y + 1))), (0, .ref (b 0)), (1, .int p1), (2, .int p2), (3, .int p3), (4, .int (nI x))]) hx hb dX6_liesOver_117 hl (k := 5) rfl (x_inc y) (by decide) rfl (fun ls hl => ?_)
              refine lv_goto (tgt := 15) hx hb dX6_liesOver_120 (by decide) ?_
              exact ihy (by omega) () _ (lt_s hyI (fun h => by obtain ⟨g1, g2, g3, g4, g5, g6, g7⟩ := h; simp_all)) (lv_sub hl [1, 2, 3, 4, 5, 0] rfl)
            · refine lv_aload_n hx hb dX6_liesOver_75 rfl (lv_at hl 0 rfl) ?_
              refine va_get (D := D) (ci := 6) (v := .ref (b 13)) (C := RX6) (T := TX6) (N := 23) hx hb hts hiX60 hown hK.1 hP 0 rfl rfl 19 (by decide) f3 (fun _ h9 => h9) rfl dX6_liesOver_76 ?_
              refine lv_iload hx hb dX6_liesOver_79 (lv_at hl 4 rfl) ?_
              refine x_iald hx hb hK hP 13 0 rfl rfl (k := x) (by omega) (by decide) dX6_liesOver_81 ?_
              refine lv_aload_n hx hb dX6_liesOver_82 rfl (lv_at hl 0 rfl) ?_
              refine va_get (D := D) (ci := 6) (v := .ref (b 13)) (C := RX6) (T := TX6) (N := 23) hx hb hts hiX60 hown hK.1 hP 0 rfl rfl 19 (by decide) f3 (fun _ h9 => h9) rfl dX6_liesOver_83 ?_
              refine lv_iload hx hb dX6_liesOver_86 (lv_at hl 5 rfl) ?_
              refine x_iald hx hb hK hP 13 0 rfl rfl (k := y) (by omega) (by decide) dX6_liesOver_88 ?_
              refine lv_isub hx hb dX6_liesOver_89 ?_
              refine lv_istore (lv' := [(6, .int ((a 13 x) - (a 13 y))), (0, .ref (b 0)), (1, .int p1), (2, .int p2), (3, .int p3), (4, .int (nI x)), (5, .int (nI y))]) hx hb dX6_liesOver_90 hl (by decide) rfl (fun ls hl => ?_)
              refine lv_iload hx hb dX6_liesOver_92 (lv_at hl 0 rfl) ?_
              refine lv_iconst (v := (-1)) hx hb dX6_liesOver_94 (by decide) ?_
              refine lv_icmp_lt (tgt := 117) hx hb dX6_liesOver_95 (by decide) (fun c_95 => ?_) (fun c_95 => ?_)
              · refine lv_iinc (v := nI (y + 1)) (lv' := [(5, .int (nI (y + 1))), (6, .int ((a 13 x) - (a 13 y))), (0, .ref (b 0)), (1, .int p1), (2, .int p2), (3, .int p3), (4, .int (nI x))]) hx hb dX6_liesOver_117 hl (k := 6) rfl (x_inc y) (by decide) rfl (fun ls hl => ?_)
                refine lv_goto (tgt := 15) hx hb dX6_liesOver_120 (by decide) ?_
                exact ihy (by omega) () _ (lt_s hyI (fun h => by obtain ⟨g1, g2, g3, g4, g5, g6, g7⟩ := h; simp_all)) (lv_sub hl [2, 3, 4, 5, 6, 0] rfl)
              · refine lv_iload hx hb dX6_liesOver_98 (lv_at hl 0 rfl) ?_
                refine lv_iconst (v := 1) hx hb dX6_liesOver_100 (by decide) ?_
                refine lv_icmp_gt (tgt := 117) hx hb dX6_liesOver_101 (by decide) (fun c_101 => ?_) (fun c_101 => ?_)
                · refine lv_iinc (v := nI (y + 1)) (lv' := [(5, .int (nI (y + 1))), (6, .int ((a 13 x) - (a 13 y))), (0, .ref (b 0)), (1, .int p1), (2, .int p2), (3, .int p3), (4, .int (nI x))]) hx hb dX6_liesOver_117 hl (k := 6) rfl (x_inc y) (by decide) rfl (fun ls hl => ?_)
                  refine lv_goto (tgt := 15) hx hb dX6_liesOver_120 (by decide) ?_
                  exact ihy (by omega) () _ (lt_s hyI (fun h => by obtain ⟨g1, g2, g3, g4, g5, g6, g7⟩ := h; simp_all)) (lv_sub hl [2, 3, 4, 5, 6, 0] rfl)
                · refine lv_aload_n hx hb dX6_liesOver_104 rfl (lv_at hl 1 rfl) ?_
                  refine lv_iload hx hb dX6_liesOver_105 (lv_at hl 5 rfl) ?_
                  refine lv_iload hx hb dX6_liesOver_107 (lv_at hl 6 rfl) ?_
                  refine rcVi (As := [.int (nI x), .int (nI y)]) (rest := []) ⟨hx, hb, hml, hown, hts⟩ (k6_areShared l D b cA u n m a x y (by omega) (by omega) (by omega)) (cwV 2 hts gX6_liesOver_X6_areShared rfl rfl rfl (by decide +kernel) ⟨Nat.le_of_ble_eq_true rfl, Nat.le_of_ble_eq_true rfl⟩) (va_recv hK.1 hP (ci := 6) (q0 := 0) rfl rfl) hP hK rfl hl.1 rfl (Nat.le_of_ble_eq_true rfl) dX6_liesOver_109 ⟨Nat.zero_le _, Nat.zero_le _⟩ ?_
                  refine x_ifne (tgt := 117) hx hb dX6_liesOver_112 (by decide) (fun c_112 => ?_) (fun c_112 => ?_)
                  · refine lv_iinc (v := nI (y + 1)) (lv' := [(5, .int (nI (y + 1))), (6, .int ((a 13 x) - (a 13 y))), (0, .ref (b 0)), (1, .int p1), (2, .int p2), (3, .int p3), (4, .int (nI x))]) hx hb dX6_liesOver_117 hl (k := 6) rfl (x_inc y) (by decide) rfl (fun ls hl => ?_)
                    refine lv_goto (tgt := 15) hx hb dX6_liesOver_120 (by decide) ?_
                    exact ihy (by omega) () _ (lt_s hyI (fun h => by obtain ⟨g1, g2, g3, g4, g5, g6, g7⟩ := h; simp_all)) (lv_sub hl [2, 3, 4, 5, 6, 0] rfl)
                  · refine lv_iconst (v := 1) hx hb dX6_liesOver_115 (by decide) ?_
                    exact r_zret hx hb hr hlk rfl ((bv_t (fun h => h x (by omega) y (by omega) ⟨c_33, c_44, c_55, c_72, c_95, c_101, c_112⟩)).symm) dX6_liesOver_116

set_option maxHeartbeats 4000000 in
set_option maxRecDepth 100000 in
theorem k6_aside (l : Launch) (D : va_G) (b : Nat → Nat) (cA : ClassId) (u : Nat → Int32) (n m : Nat) (a : Nat → Nat → Int32) (k : Nat) (f : Nat → Nat) (q : Nat) (hk : k < n) (hq : q < n) (hn : n ≤ 60) (he : rEnum (a 7) (a 8) (a 9) (a 13) n (a 7 k) (a 9 k) (a 8 k) (rUp (a 7) (a 8) (a 9) (a 13) n (a 7 k) (a 9 k) (a 8 k)) f q k) : Met l yX6_aside wsX6_aside ({ frames := 5, cells := 0, slots := 0, locals := 122 }) (rPc D (mW b cA u n m a) [(cA, .int)] [.ref (b 0), .int (nI k)]) (vp_Si (fun r => r = rAsV (a 13) f q (rUp (a 7) (a 8) (a 9) (a 13) n (a 7 k) (a 9 k) (a 8 k)))) 0 0 (fun _ => False) := by
  refine r_head (C := RX6) (cc := cX6_aside) (maxL := 9) (ret := (some .int)) [(0, .ref (b 0)), (1, .int (nI k))] (by decide) rfl rfl (Nat.le_of_ble_eq_true rfl) rfl ?_
  intro p e s mi below meth c hx hb hr hlk hml hown hts hP hK ls hl
  have hiX60 : ∀ w ∈ wsX60, w ∈ wsX6_aside := fun w h => List.mem_cons_of_mem _ (List.mem_append_right _ h)
  have f0 := hts (.fieldLink RX6 76 "StaffHeadsModel" "notes" "I") (List.mem_of_getElem? (i := 1) rfl)
  have f1 := hts (.fieldLink RX6 28 "StaffHeadsModel" "staffOf" "[I") (List.mem_of_getElem? (i := 2) rfl)
  have f2 := hts (.fieldLink RX6 34 "StaffHeadsModel" "tickOf" "[I") (List.mem_of_getElem? (i := 3) rfl)
  have f3 := hts (.fieldLink RX6 31 "StaffHeadsModel" "voiceOf" "[I") (List.mem_of_getElem? (i := 4) rfl)
  obtain ⟨hfq, hne, hsel⟩ := he
  refine x_join 9 [(0, .ref (b 0)), (1, .int (nI k))] 14 [.int (bv (rUp (a 7) (a 8) (a 9) (a 13) n (a 7 k) (a 9 k) (a 8 k)))] ?_ (fun j_14 => ?_)
  · intro ls hl
    refine lv_istore_n (lv' := [(2, .int (bv (rUp (a 7) (a 8) (a 9) (a 13) n (a 7 k) (a 9 k) (a 8 k)))), (0, .ref (b 0)), (1, .int (nI k))]) hx hb dX6_aside_14 rfl hl (by decide) rfl (fun ls hl => ?_)
    refine lv_sipush (v := (-1000)) hx hb dX6_aside_15 (by decide) ?_
    refine x_tp (y := enc (rPrev f 0)) rfl ?_
    refine lv_istore_n (lv' := [(3, .int (enc (rPrev f 0))), (2, .int (bv (rUp (a 7) (a 8) (a 9) (a 13) n (a 7 k) (a 9 k) (a 8 k)))), (0, .ref (b 0)), (1, .int (nI k))]) hx hb dX6_aside_18 rfl hl (by decide) rfl (fun ls hl => ?_)
    refine lv_iconst (v := 0) hx hb dX6_aside_19 (by decide) ?_
    refine x_tp (y := bv (rAsP (a 13) f 0 = true)) (bv_f (by simp [rAsP])).symm ?_
    refine lv_istore (lv' := [(4, .int (bv (rAsP (a 13) f 0 = true))), (3, .int (enc (rPrev f 0))), (2, .int (bv (rUp (a 7) (a 8) (a 9) (a 13) n (a 7 k) (a 9 k) (a 8 k)))), (0, .ref (b 0)), (1, .int (nI k))]) hx hb dX6_aside_20 hl (by decide) rfl (fun ls hl => ?_)
    refine lv_iconst (v := 1) hx hb dX6_aside_22 (by decide) ?_
    refine x_tp (y := bv (0 ≤ q)) (bv_t (Nat.zero_le q)).symm ?_
    refine lv_istore (lv' := [(5, .int (bv (0 ≤ q))), (4, .int (bv (rAsP (a 13) f 0 = true))), (3, .int (enc (rPrev f 0))), (2, .int (bv (rUp (a 7) (a 8) (a 9) (a 13) n (a 7 k) (a 9 k) (a 8 k)))), (0, .ref (b 0)), (1, .int (nI k))]) hx hb dX6_aside_23 hl (by decide) rfl (fun ls hl => ?_)
    refine lpR (G := fun ls => W p l e _ s mi _ below meth c _ _ _ _ _ (F0 mi 25 ls [])) 9 (q + 1) (fun i (_ : Unit) => [(0, .ref (b 0)), (1, .int (nI k)), (2, .int (bv (rUp (a 7) (a 8) (a 9) (a 13) n (a 7 k) (a 9 k) (a 8 k)))), (3, .int (enc (rPrev f i))), (4, .int (bv (rAsP (a 13) f i = true))), (5, .int (bv (i ≤ q)))]) (fun _ _ => True) ?_ 0 () (Nat.zero_le _) trivial (lv_sub hl [4, 5, 3, 2, 1, 0] rfl)
    clear hl ls
    intro i gu hi hiI ls hl ihi
    refine lv_iload hx hb dX6_aside_25 (lv_at hl 5 rfl) ?_
    refine x_ifeq (tgt := 207) hx hb dX6_aside_27 (by decide) (fun c_27 => ?_) (fun c_27 => ?_)
    · obtain rfl : q + 1 = i := by omega
      have hl := lv_cast (l' := [(0, .ref (b 0)), (1, .int (nI k)), (2, .int (bv (rUp (a 7) (a 8) (a 9) (a 13) n (a 7 k) (a 9 k) (a 8 k)))), (3, .int (enc (rPrev f (q + 1)))), (4, .int (bv (rAsd (a 13) f q = true))), (5, .int (bv (q + 1 ≤ q)))]) hl (by rw [show bv (rAsP (a 13) f (q + 1) = true) = bv (rAsd (a 13) f q = true) from rfl])
      refine lv_iload hx hb dX6_aside_207 (lv_at hl 4 rfl) ?_
      refine x_ifeq (tgt := 224) hx hb dX6_aside_209 (by decide) (fun c_209 => ?_) (fun c_209 => ?_)
      · refine lv_iconst (v := 0) hx hb dX6_aside_224 (by decide) ?_
        exact r_iret hx hb hr hlk (by simp only [rAsV, if_neg c_209]) dX6_aside_225
      · refine lv_iload_n hx hb dX6_aside_212 rfl (lv_at hl 2 rfl) ?_
        refine x_ifeq (tgt := 220) hx hb dX6_aside_213 (by decide) (fun c_213 => ?_) (fun c_213 => ?_)
        · refine lv_iconst (v := (-1)) hx hb dX6_aside_220 (by decide) ?_
          refine lv_goto (tgt := 225) hx hb dX6_aside_221 (by decide) ?_
          exact r_iret hx hb hr hlk (by simp only [rAsV, if_pos c_209, if_neg c_213]) dX6_aside_225
        · refine lv_iconst (v := 1) hx hb dX6_aside_216 (by decide) ?_
          refine lv_goto (tgt := 225) hx hb dX6_aside_217 (by decide) ?_
          exact r_iret hx hb hr hlk (by simp only [rAsV, if_pos c_209, if_pos c_213]) dX6_aside_225
    · cases i with
      | zero =>
        have hl := lv_cast (l' := [(0, .ref (b 0)), (1, .int (nI k)), (2, .int (bv (rUp (a 7) (a 8) (a 9) (a 13) n (a 7 k) (a 9 k) (a 8 k)))), (3, .int (-1000)), (4, .int (bv (rAsP (a 13) f 0 = true))), (5, .int (bv (0 ≤ q)))]) hl (by rw [show enc (rPrev f 0) = (-1000) from rfl])
        have hfl := rNxt_lt (hsel 0 c_27)
        have hsl : rNxt (a 7) (a 8) (a 9) (a 13) (a 7 k) (a 9 k) (a 8 k) (rUp (a 7) (a 8) (a 9) (a 13) n (a 7 k) (a 9 k) (a 8 k)) none n = some (f 0) := hsel 0 c_27
        refine lv_sipush (v := (-1000)) hx hb dX6_aside_30 (by decide) ?_
        refine x_tp (y := enc (rNxt (a 7) (a 8) (a 9) (a 13) (a 7 k) (a 9 k) (a 8 k) (rUp (a 7) (a 8) (a 9) (a 13) n (a 7 k) (a 9 k) (a 8 k)) none 0)) rfl ?_
        refine lv_istore (lv' := [(6, .int (enc (rNxt (a 7) (a 8) (a 9) (a 13) (a 7 k) (a 9 k) (a 8 k) (rUp (a 7) (a 8) (a 9) (a 13) n (a 7 k) (a 9 k) (a 8 k)) none 0))), (0, .ref (b 0)), (1, .int (nI k)), (2, .int (bv (rUp (a 7) (a 8) (a 9) (a 13) n (a 7 k) (a 9 k) (a 8 k)))), (3, .int (-1000)), (4, .int (bv (rAsP (a 13) f 0 = true))), (5, .int (bv (0 ≤ q)))]) hx hb dX6_aside_33 hl (by decide) rfl (fun ls hl => ?_)
        refine lv_iconst (v := 0) hx hb dX6_aside_35 (by decide) ?_
        refine x_tp (y := nI 0) nI_0.symm ?_
        refine lv_istore (lv' := [(7, .int (nI 0)), (6, .int (enc (rNxt (a 7) (a 8) (a 9) (a 13) (a 7 k) (a 9 k) (a 8 k) (rUp (a 7) (a 8) (a 9) (a 13) n (a 7 k) (a 9 k) (a 8 k)) none 0))), (0, .ref (b 0)), (1, .int (nI k)), (2, .int (bv (rUp (a 7) (a 8) (a 9) (a 13) n (a 7 k) (a 9 k) (a 8 k)))), (3, .int (-1000)), (4, .int (bv (rAsP (a 13) f 0 = true))), (5, .int (bv (0 ≤ q)))]) hx hb dX6_aside_36 hl (by decide) rfl (fun ls hl => ?_)
        refine lpR (G := fun ls => W p l e _ s mi _ below meth c _ _ _ _ _ (F0 mi 38 ls [])) 9 n (fun x (_ : Unit) => [(0, .ref (b 0)), (1, .int (nI k)), (2, .int (bv (rUp (a 7) (a 8) (a 9) (a 13) n (a 7 k) (a 9 k) (a 8 k)))), (3, .int (-1000)), (4, .int (bv (rAsP (a 13) f 0 = true))), (6, .int (enc (rNxt (a 7) (a 8) (a 9) (a 13) (a 7 k) (a 9 k) (a 8 k) (rUp (a 7) (a 8) (a 9) (a 13) n (a 7 k) (a 9 k) (a 8 k)) none x))), (7, .int (nI x))]) (fun _ _ => True) ?_ 0 () (Nat.zero_le _) trivial (lv_sub hl [2, 3, 4, 5, 6, 1, 0] rfl)
        clear hl ls
        intro x gu hx1 hxI ls hl ihx
        refine lv_iload hx hb dX6_aside_38 (lv_at hl 6 rfl) ?_
        refine lv_aload_n hx hb dX6_aside_40 rfl (lv_at hl 0 rfl) ?_
        refine va_get (D := D) (ci := 6) (v := .int (nI n)) (C := RX6) (T := TX6) (N := 23) hx hb hts hiX60 hown hK.1 hP 0 rfl rfl 9 (by decide) f0 (fun _ h9 => h9) rfl dX6_aside_41 ?_
        refine x_nge (tgt := 139) hx hb dX6_aside_44 (by decide) (by omega) (by omega) (fun c_44 => ?_) (fun c_44 => ?_)
        · obtain rfl : n = x := by omega
          have hl := lv_cast (l' := [(0, .ref (b 0)), (1, .int (nI k)), (2, .int (bv (rUp (a 7) (a 8) (a 9) (a 13) n (a 7 k) (a 9 k) (a 8 k)))), (3, .int (-1000)), (4, .int (bv (rAsP (a 13) f 0 = true))), (6, .int (nI (f 0))), (7, .int (nI n))]) hl (by rw [show enc (rNxt (a 7) (a 8) (a 9) (a 13) (a 7 k) (a 9 k) (a 8 k) (rUp (a 7) (a 8) (a 9) (a 13) n (a 7 k) (a 9 k) (a 8 k)) none n) = nI (f 0) from (by rw [hsl]; rfl)])
          refine lv_iload_n hx hb dX6_aside_139 rfl (lv_at hl 3 rfl) ?_
          refine lv_sipush (v := (-1000)) hx hb dX6_aside_140 (by decide) ?_
          refine lv_icmp_ne (tgt := 151) hx hb dX6_aside_143 (by decide) (fun c_143 => ?_) (fun c_143 => ?_)
          · exact absurd rfl c_143
          · refine lv_bipush (v := 100) hx hb dX6_aside_146 (by decide) ?_
            refine lv_goto (tgt := 163) hx hb dX6_aside_148 (by decide) ?_
            refine lv_istore (lv' := [(7, .int 100), (0, .ref (b 0)), (1, .int (nI k)), (2, .int (bv (rUp (a 7) (a 8) (a 9) (a 13) n (a 7 k) (a 9 k) (a 8 k)))), (3, .int (-1000)), (4, .int (bv (rAsP (a 13) f 0 = true))), (6, .int (nI (f 0)))]) hx hb dX6_aside_163 hl (by decide) rfl (fun ls hl => ?_)
            refine x_join 9 [(7, .int 100), (0, .ref (b 0)), (1, .int (nI k)), (2, .int (bv (rUp (a 7) (a 8) (a 9) (a 13) n (a 7 k) (a 9 k) (a 8 k)))), (3, .int (-1000)), (4, .int (bv (rAsP (a 13) f 0 = true))), (6, .int (nI (f 0)))] 187 [.int (bv (rAsP (a 13) f (0 + 1) = true))] ?_ (fun j_187 => ?_)
            · intro ls hl
              refine lv_istore (lv' := [(4, .int (bv (rAsP (a 13) f (0 + 1) = true))), (7, .int 100), (0, .ref (b 0)), (1, .int (nI k)), (2, .int (bv (rUp (a 7) (a 8) (a 9) (a 13) n (a 7 k) (a 9 k) (a 8 k)))), (3, .int (-1000)), (6, .int (nI (f 0)))]) hx hb dX6_aside_187 hl (by decide) rfl (fun ls hl => ?_)
              refine lv_iload hx hb dX6_aside_189 (lv_at hl 6 rfl) ?_
              refine lv_istore_n (lv' := [(3, .int (nI (f 0))), (4, .int (bv (rAsP (a 13) f (0 + 1) = true))), (7, .int 100), (0, .ref (b 0)), (1, .int (nI k)), (2, .int (bv (rUp (a 7) (a 8) (a 9) (a 13) n (a 7 k) (a 9 k) (a 8 k)))), (6, .int (nI (f 0)))]) hx hb dX6_aside_191 rfl hl (by decide) rfl (fun ls hl => ?_)
              refine lv_iload_n hx hb dX6_aside_192 rfl (lv_at hl 0 rfl) ?_
              refine lv_iload_n hx hb dX6_aside_193 rfl (lv_at hl 4 rfl) ?_
              refine x_neq (tgt := 201) hx hb dX6_aside_194 (by decide) (by omega) (by omega) (fun c_194 => ?_) (fun c_194 => ?_)
              · refine lv_iconst (v := 0) hx hb dX6_aside_201 (by decide) ?_
                refine x_tp (y := bv (0 + 1 ≤ q)) (bv_f (fun h => hne _ (by omega) c_194)).symm ?_
                refine lv_istore (lv' := [(5, .int (bv (0 + 1 ≤ q))), (3, .int (nI (f 0))), (4, .int (bv (rAsP (a 13) f (0 + 1) = true))), (7, .int 100), (0, .ref (b 0)), (1, .int (nI k)), (2, .int (bv (rUp (a 7) (a 8) (a 9) (a 13) n (a 7 k) (a 9 k) (a 8 k)))), (6, .int (nI (f 0)))]) hx hb dX6_aside_202 hl (by decide) rfl (fun ls hl => ?_)
                have hl := lv_cast (l' := [(5, .int (bv (0 + 1 ≤ q))), (3, .int (enc (rPrev f (0 + 1)))), (4, .int (bv (rAsP (a 13) f (0 + 1) = true))), (7, .int 100), (0, .ref (b 0)), (1, .int (nI k)), (2, .int (bv (rUp (a 7) (a 8) (a 9) (a 13) n (a 7 k) (a 9 k) (a 8 k)))), (6, .int (nI (f 0)))]) hl (by rw [show nI (f 0) = enc (rPrev f (0 + 1)) from rfl])
                refine lv_goto (tgt := 25) hx hb dX6_aside_204 (by decide) ?_
                exact ihi (by omega) () _ trivial (lv_sub hl [4, 5, 6, 1, 2, 0] rfl)
              · refine lv_iconst (v := 1) hx hb dX6_aside_197 (by decide) ?_
                refine lv_goto (tgt := 202) hx hb dX6_aside_198 (by decide) ?_
                refine x_tp (y := bv (0 + 1 ≤ q)) (bv_t (by have h9 : ¬ 0 = q := (fun h => c_194 (by rw [h]; exact hfq)); omega)).symm ?_
                refine lv_istore (lv' := [(5, .int (bv (0 + 1 ≤ q))), (3, .int (nI (f 0))), (4, .int (bv (rAsP (a 13) f (0 + 1) = true))), (7, .int 100), (0, .ref (b 0)), (1, .int (nI k)), (2, .int (bv (rUp (a 7) (a 8) (a 9) (a 13) n (a 7 k) (a 9 k) (a 8 k)))), (6, .int (nI (f 0)))]) hx hb dX6_aside_202 hl (by decide) rfl (fun ls hl => ?_)
                have hl := lv_cast (l' := [(5, .int (bv (0 + 1 ≤ q))), (3, .int (enc (rPrev f (0 + 1)))), (4, .int (bv (rAsP (a 13) f (0 + 1) = true))), (7, .int 100), (0, .ref (b 0)), (1, .int (nI k)), (2, .int (bv (rUp (a 7) (a 8) (a 9) (a 13) n (a 7 k) (a 9 k) (a 8 k)))), (6, .int (nI (f 0)))]) hl (by rw [show nI (f 0) = enc (rPrev f (0 + 1)) from rfl])
                refine lv_goto (tgt := 25) hx hb dX6_aside_204 (by decide) ?_
                exact ihi (by omega) () _ trivial (lv_sub hl [4, 5, 6, 1, 2, 0] rfl)
            refine lv_iload hx hb dX6_aside_165 (lv_at hl 0 rfl) ?_
            refine lv_iconst (v := (-1)) hx hb dX6_aside_167 (by decide) ?_
            refine lv_icmp_lt (tgt := 186) hx hb dX6_aside_168 (by decide) (fun c_168 => ?_) (fun c_168 => ?_)
            · exact absurd c_168 (by decide)
            · refine lv_iload hx hb dX6_aside_171 (lv_at hl 0 rfl) ?_
              refine lv_iconst (v := 1) hx hb dX6_aside_173 (by decide) ?_
              refine lv_icmp_gt (tgt := 186) hx hb dX6_aside_174 (by decide) (fun c_174 => ?_) (fun c_174 => ?_)
              · refine lv_iconst (v := 0) hx hb dX6_aside_186 (by decide) ?_
                refine x_tp (y := bv (rAsP (a 13) f (0 + 1) = true)) (bv_f (fun h => Bool.noConfusion h)).symm ?_
                exact j_187 _ (lv_sub hl [0, 1, 2, 3, 4, 5, 6] rfl)
              · exact absurd (by decide) c_174
        · cases ho : rNxt (a 7) (a 8) (a 9) (a 13) (a 7 k) (a 9 k) (a 8 k) (rUp (a 7) (a 8) (a 9) (a 13) n (a 7 k) (a 9 k) (a 8 k)) none x with
          | none =>
            have hl := lv_cast (l' := [(0, .ref (b 0)), (1, .int (nI k)), (2, .int (bv (rUp (a 7) (a 8) (a 9) (a 13) n (a 7 k) (a 9 k) (a 8 k)))), (3, .int (-1000)), (4, .int (bv (rAsP (a 13) f 0 = true))), (6, .int (-1000)), (7, .int (nI x))]) hl (by rw [show enc (rNxt (a 7) (a 8) (a 9) (a 13) (a 7 k) (a 9 k) (a 8 k) (rUp (a 7) (a 8) (a 9) (a 13) n (a 7 k) (a 9 k) (a 8 k)) none x) = (-1000) from (by rw [ho]; rfl)])
            refine lv_aload_n hx hb dX6_aside_47 rfl (lv_at hl 0 rfl) ?_
            refine x_join 9 [(0, .ref (b 0)), (1, .int (nI k)), (2, .int (bv (rUp (a 7) (a 8) (a 9) (a 13) n (a 7 k) (a 9 k) (a 8 k)))), (3, .int (-1000)), (4, .int (bv (rAsP (a 13) f 0 = true))), (6, .int (-1000)), (7, .int (nI x))] 97 [.int (bv (rIn (a 7) (a 8) (a 9) x (a 7 k) (a 9 k) (a 8 k) ∧ rAhB (a 13) none x (rUp (a 7) (a 8) (a 9) (a 13) n (a 7 k) (a 9 k) (a 8 k)) = true))] ?_ (fun j_97 => ?_)
            · intro ls hl
              refine lv_istore (lv' := [(8, .int (bv (rIn (a 7) (a 8) (a 9) x (a 7 k) (a 9 k) (a 8 k) ∧ rAhB (a 13) none x (rUp (a 7) (a 8) (a 9) (a 13) n (a 7 k) (a 9 k) (a 8 k)) = true))), (0, .ref (b 0)), (1, .int (nI k)), (2, .int (bv (rUp (a 7) (a 8) (a 9) (a 13) n (a 7 k) (a 9 k) (a 8 k)))), (3, .int (-1000)), (4, .int (bv (rAsP (a 13) f 0 = true))), (6, .int (-1000)), (7, .int (nI x))]) hx hb dX6_aside_97 hl (by decide) rfl (fun ls hl => ?_)
              refine lv_iload hx hb dX6_aside_99 (lv_at hl 0 rfl) ?_
              refine x_ifeq (tgt := 129) hx hb dX6_aside_101 (by decide) (fun c_101 => ?_) (fun c_101 => ?_)
              · refine lv_iload hx hb dX6_aside_129 (lv_at hl 6 rfl) ?_
                refine x_tp (y := enc (rNxt (a 7) (a 8) (a 9) (a 13) (a 7 k) (a 9 k) (a 8 k) (rUp (a 7) (a 8) (a 9) (a 13) n (a 7 k) (a 9 k) (a 8 k)) none (x + 1))) (by rw [rNxt, ho, if_neg (fun h => c_101 h.1)]; rfl) ?_
                refine lv_istore (lv' := [(6, .int (enc (rNxt (a 7) (a 8) (a 9) (a 13) (a 7 k) (a 9 k) (a 8 k) (rUp (a 7) (a 8) (a 9) (a 13) n (a 7 k) (a 9 k) (a 8 k)) none (x + 1)))), (8, .int (bv (rIn (a 7) (a 8) (a 9) x (a 7 k) (a 9 k) (a 8 k) ∧ rAhB (a 13) none x (rUp (a 7) (a 8) (a 9) (a 13) n (a 7 k) (a 9 k) (a 8 k)) = true))), (0, .ref (b 0)), (1, .int (nI k)), (2, .int (bv (rUp (a 7) (a 8) (a 9) (a 13) n (a 7 k) (a 9 k) (a 8 k)))), (3, .int (-1000)), (4, .int (bv (rAsP (a 13) f 0 = true))), (7, .int (nI x))]) hx hb dX6_aside_131 hl (by decide) rfl (fun ls hl => ?_)
                refine lv_iinc (v := nI (x + 1)) (lv' := [(7, .int (nI (x + 1))), (6, .int (enc (rNxt (a 7) (a 8) (a 9) (a 13) (a 7 k) (a 9 k) (a 8 k) (rUp (a 7) (a 8) (a 9) (a 13) n (a 7 k) (a 9 k) (a 8 k)) none (x + 1)))), (8, .int (bv (rIn (a 7) (a 8) (a 9) x (a 7 k) (a 9 k) (a 8 k) ∧ rAhB (a 13) none x (rUp (a 7) (a 8) (a 9) (a 13) n (a 7 k) (a 9 k) (a 8 k)) = true))), (0, .ref (b 0)), (1, .int (nI k)), (2, .int (bv (rUp (a 7) (a 8) (a 9) (a 13) n (a 7 k) (a 9 k) (a 8 k)))), (3, .int (-1000)), (4, .int (bv (rAsP (a 13) f 0 = true)))]) hx hb dX6_aside_133 hl (k := 7) rfl (x_inc x) (by decide) rfl (fun ls hl => ?_)
                refine lv_goto (tgt := 38) hx hb dX6_aside_136 (by decide) ?_
                exact ihx (by omega) () _ trivial (lv_sub hl [3, 4, 5, 6, 7, 1, 0] rfl)
              · refine lv_iload hx hb dX6_aside_104 (lv_at hl 6 rfl) ?_
                refine lv_sipush (v := (-1000)) hx hb dX6_aside_106 (by decide) ?_
                refine lv_icmp_eq (tgt := 124) hx hb dX6_aside_109 (by decide) (fun c_109 => ?_) (fun c_109 => ?_)
                · refine lv_iload hx hb dX6_aside_124 (lv_at hl 7 rfl) ?_
                  refine lv_goto (tgt := 131) hx hb dX6_aside_126 (by decide) ?_
                  refine x_tp (y := enc (rNxt (a 7) (a 8) (a 9) (a 13) (a 7 k) (a 9 k) (a 8 k) (rUp (a 7) (a 8) (a 9) (a 13) n (a 7 k) (a 9 k) (a 8 k)) none (x + 1))) (by rw [rNxt, ho, if_pos ⟨c_101, by simp [rAhC]⟩]; rfl) ?_
                  refine lv_istore (lv' := [(6, .int (enc (rNxt (a 7) (a 8) (a 9) (a 13) (a 7 k) (a 9 k) (a 8 k) (rUp (a 7) (a 8) (a 9) (a 13) n (a 7 k) (a 9 k) (a 8 k)) none (x + 1)))), (8, .int (bv (rIn (a 7) (a 8) (a 9) x (a 7 k) (a 9 k) (a 8 k) ∧ rAhB (a 13) none x (rUp (a 7) (a 8) (a 9) (a 13) n (a 7 k) (a 9 k) (a 8 k)) = true))), (0, .ref (b 0)), (1, .int (nI k)), (2, .int (bv (rUp (a 7) (a 8) (a 9) (a 13) n (a 7 k) (a 9 k) (a 8 k)))), (3, .int (-1000)), (4, .int (bv (rAsP (a 13) f 0 = true))), (7, .int (nI x))]) hx hb dX6_aside_131 hl (by decide) rfl (fun ls hl => ?_)
                  refine lv_iinc (v := nI (x + 1)) (lv' := [(7, .int (nI (x + 1))), (6, .int (enc (rNxt (a 7) (a 8) (a 9) (a 13) (a 7 k) (a 9 k) (a 8 k) (rUp (a 7) (a 8) (a 9) (a 13) n (a 7 k) (a 9 k) (a 8 k)) none (x + 1)))), (8, .int (bv (rIn (a 7) (a 8) (a 9) x (a 7 k) (a 9 k) (a 8 k) ∧ rAhB (a 13) none x (rUp (a 7) (a 8) (a 9) (a 13) n (a 7 k) (a 9 k) (a 8 k)) = true))), (0, .ref (b 0)), (1, .int (nI k)), (2, .int (bv (rUp (a 7) (a 8) (a 9) (a 13) n (a 7 k) (a 9 k) (a 8 k)))), (3, .int (-1000)), (4, .int (bv (rAsP (a 13) f 0 = true)))]) hx hb dX6_aside_133 hl (k := 7) rfl (x_inc x) (by decide) rfl (fun ls hl => ?_)
                  refine lv_goto (tgt := 38) hx hb dX6_aside_136 (by decide) ?_
                  exact ihx (by omega) () _ trivial (lv_sub hl [3, 4, 5, 6, 7, 1, 0] rfl)
                · exact absurd rfl c_109
            refine lv_iload hx hb dX6_aside_48 (lv_at hl 6 rfl) ?_
            refine lv_aload_n hx hb dX6_aside_50 rfl (lv_at hl 0 rfl) ?_
            refine va_get (D := D) (ci := 6) (v := .ref (b 7)) (C := RX6) (T := TX6) (N := 23) hx hb hts hiX60 hown hK.1 hP 0 rfl rfl 10 (by decide) f1 (fun _ h9 => h9) rfl dX6_aside_51 ?_
            refine lv_iload_n hx hb dX6_aside_54 rfl (lv_at hl 1 rfl) ?_
            refine x_iald hx hb hK hP 7 0 rfl rfl (k := k) (by omega) (by decide) dX6_aside_55 ?_
            refine lv_aload_n hx hb dX6_aside_56 rfl (lv_at hl 0 rfl) ?_
            refine va_get (D := D) (ci := 6) (v := .ref (b 9)) (C := RX6) (T := TX6) (N := 23) hx hb hts hiX60 hown hK.1 hP 0 rfl rfl 12 (by decide) f2 (fun _ h9 => h9) rfl dX6_aside_57 ?_
            refine lv_iload_n hx hb dX6_aside_60 rfl (lv_at hl 1 rfl) ?_
            refine x_iald hx hb hK hP 9 0 rfl rfl (k := k) (by omega) (by decide) dX6_aside_61 ?_
            refine lv_aload_n hx hb dX6_aside_62 rfl (lv_at hl 0 rfl) ?_
            refine va_get (D := D) (ci := 6) (v := .ref (b 8)) (C := RX6) (T := TX6) (N := 23) hx hb hts hiX60 hown hK.1 hP 0 rfl rfl 11 (by decide) f3 (fun _ h9 => h9) rfl dX6_aside_63 ?_
            refine lv_iload_n hx hb dX6_aside_66 rfl (lv_at hl 1 rfl) ?_
            refine x_iald hx hb hK hP 8 0 rfl rfl (k := k) (by omega) (by decide) dX6_aside_67 ?_
            refine rcVi (As := [.int (nI x), .int (a 7 k), .int (a 9 k), .int (a 8 k)]) (rest := []) ⟨hx, hb, hml, hown, hts⟩ (k6_isIn l D b cA u n m a x (a 7 k) (a 9 k) (a 8 k) (by omega)) (cwV 4 hts gX6_aside_X6_isIn rfl rfl rfl (by decide +kernel) ⟨Nat.le_of_ble_eq_true rfl, Nat.le_of_ble_eq_true rfl⟩) (va_recv hK.1 hP (ci := 6) (q0 := 0) rfl rfl) hP hK rfl hl.1 rfl (Nat.le_of_ble_eq_true rfl) dX6_aside_68 ⟨Nat.zero_le _, Nat.zero_le _⟩ ?_
            refine x_ifeq (tgt := 96) hx hb dX6_aside_71 (by decide) (fun c_71 => ?_) (fun c_71 => ?_)
            · refine lv_iconst (v := 0) hx hb dX6_aside_96 (by decide) ?_
              refine x_tp (y := bv (rIn (a 7) (a 8) (a 9) x (a 7 k) (a 9 k) (a 8 k) ∧ rAhB (a 13) none x (rUp (a 7) (a 8) (a 9) (a 13) n (a 7 k) (a 9 k) (a 8 k)) = true)) (bv_f (fun h => c_71 h.1)).symm ?_
              exact j_97 _ (lv_sub hl [0, 1, 2, 3, 4, 5, 6] rfl)
            · refine lv_iload_n hx hb dX6_aside_74 rfl (lv_at hl 3 rfl) ?_
              refine lv_sipush (v := (-1000)) hx hb dX6_aside_75 (by decide) ?_
              refine lv_icmp_eq (tgt := 92) hx hb dX6_aside_78 (by decide) (fun c_78 => ?_) (fun c_78 => ?_)
              · refine lv_iconst (v := 1) hx hb dX6_aside_92 (by decide) ?_
                refine lv_goto (tgt := 97) hx hb dX6_aside_93 (by decide) ?_
                refine x_tp (y := bv (rIn (a 7) (a 8) (a 9) x (a 7 k) (a 9 k) (a 8 k) ∧ rAhB (a 13) none x (rUp (a 7) (a 8) (a 9) (a 13) n (a 7 k) (a 9 k) (a 8 k)) = true)) (bv_t ⟨c_71, by simp [rAhB]⟩).symm ?_
                exact j_97 _ (lv_sub hl [0, 1, 2, 3, 4, 5, 6] rfl)
              · exact absurd rfl c_78
          | some j =>
            have hj := (rNxt_lt ho).1
            have hl := lv_cast (l' := [(0, .ref (b 0)), (1, .int (nI k)), (2, .int (bv (rUp (a 7) (a 8) (a 9) (a 13) n (a 7 k) (a 9 k) (a 8 k)))), (3, .int (-1000)), (4, .int (bv (rAsP (a 13) f 0 = true))), (6, .int (nI j)), (7, .int (nI x))]) hl (by rw [show enc (rNxt (a 7) (a 8) (a 9) (a 13) (a 7 k) (a 9 k) (a 8 k) (rUp (a 7) (a 8) (a 9) (a 13) n (a 7 k) (a 9 k) (a 8 k)) none x) = nI j from (by rw [ho]; rfl)])
            refine lv_aload_n hx hb dX6_aside_47 rfl (lv_at hl 0 rfl) ?_
            refine x_join 9 [(0, .ref (b 0)), (1, .int (nI k)), (2, .int (bv (rUp (a 7) (a 8) (a 9) (a 13) n (a 7 k) (a 9 k) (a 8 k)))), (3, .int (-1000)), (4, .int (bv (rAsP (a 13) f 0 = true))), (6, .int (nI j)), (7, .int (nI x))] 97 [.int (bv (rIn (a 7) (a 8) (a 9) x (a 7 k) (a 9 k) (a 8 k) ∧ rAhB (a 13) none x (rUp (a 7) (a 8) (a 9) (a 13) n (a 7 k) (a 9 k) (a 8 k)) = true))] ?_ (fun j_97 => ?_)
            · intro ls hl
              refine lv_istore (lv' := [(8, .int (bv (rIn (a 7) (a 8) (a 9) x (a 7 k) (a 9 k) (a 8 k) ∧ rAhB (a 13) none x (rUp (a 7) (a 8) (a 9) (a 13) n (a 7 k) (a 9 k) (a 8 k)) = true))), (0, .ref (b 0)), (1, .int (nI k)), (2, .int (bv (rUp (a 7) (a 8) (a 9) (a 13) n (a 7 k) (a 9 k) (a 8 k)))), (3, .int (-1000)), (4, .int (bv (rAsP (a 13) f 0 = true))), (6, .int (nI j)), (7, .int (nI x))]) hx hb dX6_aside_97 hl (by decide) rfl (fun ls hl => ?_)
              refine lv_iload hx hb dX6_aside_99 (lv_at hl 0 rfl) ?_
              refine x_ifeq (tgt := 129) hx hb dX6_aside_101 (by decide) (fun c_101 => ?_) (fun c_101 => ?_)
              · refine lv_iload hx hb dX6_aside_129 (lv_at hl 6 rfl) ?_
                refine x_tp (y := enc (rNxt (a 7) (a 8) (a 9) (a 13) (a 7 k) (a 9 k) (a 8 k) (rUp (a 7) (a 8) (a 9) (a 13) n (a 7 k) (a 9 k) (a 8 k)) none (x + 1))) (by rw [rNxt, ho, if_neg (fun h => c_101 h.1)]; rfl) ?_
                refine lv_istore (lv' := [(6, .int (enc (rNxt (a 7) (a 8) (a 9) (a 13) (a 7 k) (a 9 k) (a 8 k) (rUp (a 7) (a 8) (a 9) (a 13) n (a 7 k) (a 9 k) (a 8 k)) none (x + 1)))), (8, .int (bv (rIn (a 7) (a 8) (a 9) x (a 7 k) (a 9 k) (a 8 k) ∧ rAhB (a 13) none x (rUp (a 7) (a 8) (a 9) (a 13) n (a 7 k) (a 9 k) (a 8 k)) = true))), (0, .ref (b 0)), (1, .int (nI k)), (2, .int (bv (rUp (a 7) (a 8) (a 9) (a 13) n (a 7 k) (a 9 k) (a 8 k)))), (3, .int (-1000)), (4, .int (bv (rAsP (a 13) f 0 = true))), (7, .int (nI x))]) hx hb dX6_aside_131 hl (by decide) rfl (fun ls hl => ?_)
                refine lv_iinc (v := nI (x + 1)) (lv' := [(7, .int (nI (x + 1))), (6, .int (enc (rNxt (a 7) (a 8) (a 9) (a 13) (a 7 k) (a 9 k) (a 8 k) (rUp (a 7) (a 8) (a 9) (a 13) n (a 7 k) (a 9 k) (a 8 k)) none (x + 1)))), (8, .int (bv (rIn (a 7) (a 8) (a 9) x (a 7 k) (a 9 k) (a 8 k) ∧ rAhB (a 13) none x (rUp (a 7) (a 8) (a 9) (a 13) n (a 7 k) (a 9 k) (a 8 k)) = true))), (0, .ref (b 0)), (1, .int (nI k)), (2, .int (bv (rUp (a 7) (a 8) (a 9) (a 13) n (a 7 k) (a 9 k) (a 8 k)))), (3, .int (-1000)), (4, .int (bv (rAsP (a 13) f 0 = true)))]) hx hb dX6_aside_133 hl (k := 7) rfl (x_inc x) (by decide) rfl (fun ls hl => ?_)
                refine lv_goto (tgt := 38) hx hb dX6_aside_136 (by decide) ?_
                exact ihx (by omega) () _ trivial (lv_sub hl [3, 4, 5, 6, 7, 1, 0] rfl)
              · refine lv_iload hx hb dX6_aside_104 (lv_at hl 6 rfl) ?_
                refine lv_sipush (v := (-1000)) hx hb dX6_aside_106 (by decide) ?_
                refine lv_icmp_eq (tgt := 124) hx hb dX6_aside_109 (by decide) (fun c_109 => ?_) (fun c_109 => ?_)
                · exact absurd c_109 (nI_nm (by omega))
                · refine lv_aload_n hx hb dX6_aside_112 rfl (lv_at hl 1 rfl) ?_
                  refine lv_iload hx hb dX6_aside_113 (lv_at hl 7 rfl) ?_
                  refine lv_iload hx hb dX6_aside_115 (lv_at hl 6 rfl) ?_
                  refine lv_iload_n hx hb dX6_aside_117 rfl (lv_at hl 3 rfl) ?_
                  refine rcVi (As := [.int (nI x), .int (nI j), .int (bv (rUp (a 7) (a 8) (a 9) (a 13) n (a 7 k) (a 9 k) (a 8 k)))]) (rest := []) ⟨hx, hb, hml, hown, hts⟩ (k6_isAhead l D b cA u n m a x j (rUp (a 7) (a 8) (a 9) (a 13) n (a 7 k) (a 9 k) (a 8 k)) (by omega) (by omega)) (cwV 3 hts gX6_aside_X6_isAhead rfl rfl rfl (by decide +kernel) ⟨Nat.le_of_ble_eq_true rfl, Nat.le_of_ble_eq_true rfl⟩) (va_recv hK.1 hP (ci := 6) (q0 := 0) rfl rfl) hP hK rfl hl.1 rfl (Nat.le_of_ble_eq_true rfl) dX6_aside_118 ⟨Nat.zero_le _, Nat.zero_le _⟩ ?_
                  refine x_ifeq (tgt := 129) hx hb dX6_aside_121 (by decide) (fun c_121 => ?_) (fun c_121 => ?_)
                  · refine lv_iload hx hb dX6_aside_129 (lv_at hl 6 rfl) ?_
                    refine x_tp (y := enc (rNxt (a 7) (a 8) (a 9) (a 13) (a 7 k) (a 9 k) (a 8 k) (rUp (a 7) (a 8) (a 9) (a 13) n (a 7 k) (a 9 k) (a 8 k)) none (x + 1))) (by rw [rNxt, ho, if_neg (fun h => c_121 (of_decide_eq_true h.2))]; rfl) ?_
                    refine lv_istore (lv' := [(6, .int (enc (rNxt (a 7) (a 8) (a 9) (a 13) (a 7 k) (a 9 k) (a 8 k) (rUp (a 7) (a 8) (a 9) (a 13) n (a 7 k) (a 9 k) (a 8 k)) none (x + 1)))), (8, .int (bv (rIn (a 7) (a 8) (a 9) x (a 7 k) (a 9 k) (a 8 k) ∧ rAhB (a 13) none x (rUp (a 7) (a 8) (a 9) (a 13) n (a 7 k) (a 9 k) (a 8 k)) = true))), (0, .ref (b 0)), (1, .int (nI k)), (2, .int (bv (rUp (a 7) (a 8) (a 9) (a 13) n (a 7 k) (a 9 k) (a 8 k)))), (3, .int (-1000)), (4, .int (bv (rAsP (a 13) f 0 = true))), (7, .int (nI x))]) hx hb dX6_aside_131 hl (by decide) rfl (fun ls hl => ?_)
                    refine lv_iinc (v := nI (x + 1)) (lv' := [(7, .int (nI (x + 1))), (6, .int (enc (rNxt (a 7) (a 8) (a 9) (a 13) (a 7 k) (a 9 k) (a 8 k) (rUp (a 7) (a 8) (a 9) (a 13) n (a 7 k) (a 9 k) (a 8 k)) none (x + 1)))), (8, .int (bv (rIn (a 7) (a 8) (a 9) x (a 7 k) (a 9 k) (a 8 k) ∧ rAhB (a 13) none x (rUp (a 7) (a 8) (a 9) (a 13) n (a 7 k) (a 9 k) (a 8 k)) = true))), (0, .ref (b 0)), (1, .int (nI k)), (2, .int (bv (rUp (a 7) (a 8) (a 9) (a 13) n (a 7 k) (a 9 k) (a 8 k)))), (3, .int (-1000)), (4, .int (bv (rAsP (a 13) f 0 = true)))]) hx hb dX6_aside_133 hl (k := 7) rfl (x_inc x) (by decide) rfl (fun ls hl => ?_)
                    refine lv_goto (tgt := 38) hx hb dX6_aside_136 (by decide) ?_
                    exact ihx (by omega) () _ trivial (lv_sub hl [3, 4, 5, 6, 7, 1, 0] rfl)
                  · refine lv_iload hx hb dX6_aside_124 (lv_at hl 7 rfl) ?_
                    refine lv_goto (tgt := 131) hx hb dX6_aside_126 (by decide) ?_
                    refine x_tp (y := enc (rNxt (a 7) (a 8) (a 9) (a 13) (a 7 k) (a 9 k) (a 8 k) (rUp (a 7) (a 8) (a 9) (a 13) n (a 7 k) (a 9 k) (a 8 k)) none (x + 1))) (by rw [rNxt, ho, if_pos ⟨c_101, by simp [rAhC, c_121]⟩]; rfl) ?_
                    refine lv_istore (lv' := [(6, .int (enc (rNxt (a 7) (a 8) (a 9) (a 13) (a 7 k) (a 9 k) (a 8 k) (rUp (a 7) (a 8) (a 9) (a 13) n (a 7 k) (a 9 k) (a 8 k)) none (x + 1)))), (8, .int (bv (rIn (a 7) (a 8) (a 9) x (a 7 k) (a 9 k) (a 8 k) ∧ rAhB (a 13) none x (rUp (a 7) (a 8) (a 9) (a 13) n (a 7 k) (a 9 k) (a 8 k)) = true))), (0, .ref (b 0)), (1, .int (nI k)), (2, .int (bv (rUp (a 7) (a 8) (a 9) (a 13) n (a 7 k) (a 9 k) (a 8 k)))), (3, .int (-1000)), (4, .int (bv (rAsP (a 13) f 0 = true))), (7, .int (nI x))]) hx hb dX6_aside_131 hl (by decide) rfl (fun ls hl => ?_)
                    refine lv_iinc (v := nI (x + 1)) (lv' := [(7, .int (nI (x + 1))), (6, .int (enc (rNxt (a 7) (a 8) (a 9) (a 13) (a 7 k) (a 9 k) (a 8 k) (rUp (a 7) (a 8) (a 9) (a 13) n (a 7 k) (a 9 k) (a 8 k)) none (x + 1)))), (8, .int (bv (rIn (a 7) (a 8) (a 9) x (a 7 k) (a 9 k) (a 8 k) ∧ rAhB (a 13) none x (rUp (a 7) (a 8) (a 9) (a 13) n (a 7 k) (a 9 k) (a 8 k)) = true))), (0, .ref (b 0)), (1, .int (nI k)), (2, .int (bv (rUp (a 7) (a 8) (a 9) (a 13) n (a 7 k) (a 9 k) (a 8 k)))), (3, .int (-1000)), (4, .int (bv (rAsP (a 13) f 0 = true)))]) hx hb dX6_aside_133 hl (k := 7) rfl (x_inc x) (by decide) rfl (fun ls hl => ?_)
                    refine lv_goto (tgt := 38) hx hb dX6_aside_136 (by decide) ?_
                    exact ihx (by omega) () _ trivial (lv_sub hl [3, 4, 5, 6, 7, 1, 0] rfl)
            refine lv_iload hx hb dX6_aside_48 (lv_at hl 6 rfl) ?_
            refine lv_aload_n hx hb dX6_aside_50 rfl (lv_at hl 0 rfl) ?_
            refine va_get (D := D) (ci := 6) (v := .ref (b 7)) (C := RX6) (T := TX6) (N := 23) hx hb hts hiX60 hown hK.1 hP 0 rfl rfl 10 (by decide) f1 (fun _ h9 => h9) rfl dX6_aside_51 ?_
            refine lv_iload_n hx hb dX6_aside_54 rfl (lv_at hl 1 rfl) ?_
            refine x_iald hx hb hK hP 7 0 rfl rfl (k := k) (by omega) (by decide) dX6_aside_55 ?_
            refine lv_aload_n hx hb dX6_aside_56 rfl (lv_at hl 0 rfl) ?_
            refine va_get (D := D) (ci := 6) (v := .ref (b 9)) (C := RX6) (T := TX6) (N := 23) hx hb hts hiX60 hown hK.1 hP 0 rfl rfl 12 (by decide) f2 (fun _ h9 => h9) rfl dX6_aside_57 ?_
            refine lv_iload_n hx hb dX6_aside_60 rfl (lv_at hl 1 rfl) ?_
            refine x_iald hx hb hK hP 9 0 rfl rfl (k := k) (by omega) (by decide) dX6_aside_61 ?_
            refine lv_aload_n hx hb dX6_aside_62 rfl (lv_at hl 0 rfl) ?_
            refine va_get (D := D) (ci := 6) (v := .ref (b 8)) (C := RX6) (T := TX6) (N := 23) hx hb hts hiX60 hown hK.1 hP 0 rfl rfl 11 (by decide) f3 (fun _ h9 => h9) rfl dX6_aside_63 ?_
            refine lv_iload_n hx hb dX6_aside_66 rfl (lv_at hl 1 rfl) ?_
            refine x_iald hx hb hK hP 8 0 rfl rfl (k := k) (by omega) (by decide) dX6_aside_67 ?_
            refine rcVi (As := [.int (nI x), .int (a 7 k), .int (a 9 k), .int (a 8 k)]) (rest := []) ⟨hx, hb, hml, hown, hts⟩ (k6_isIn l D b cA u n m a x (a 7 k) (a 9 k) (a 8 k) (by omega)) (cwV 4 hts gX6_aside_X6_isIn rfl rfl rfl (by decide +kernel) ⟨Nat.le_of_ble_eq_true rfl, Nat.le_of_ble_eq_true rfl⟩) (va_recv hK.1 hP (ci := 6) (q0 := 0) rfl rfl) hP hK rfl hl.1 rfl (Nat.le_of_ble_eq_true rfl) dX6_aside_68 ⟨Nat.zero_le _, Nat.zero_le _⟩ ?_
            refine x_ifeq (tgt := 96) hx hb dX6_aside_71 (by decide) (fun c_71 => ?_) (fun c_71 => ?_)
            · refine lv_iconst (v := 0) hx hb dX6_aside_96 (by decide) ?_
              refine x_tp (y := bv (rIn (a 7) (a 8) (a 9) x (a 7 k) (a 9 k) (a 8 k) ∧ rAhB (a 13) none x (rUp (a 7) (a 8) (a 9) (a 13) n (a 7 k) (a 9 k) (a 8 k)) = true)) (bv_f (fun h => c_71 h.1)).symm ?_
              exact j_97 _ (lv_sub hl [0, 1, 2, 3, 4, 5, 6] rfl)
            · refine lv_iload_n hx hb dX6_aside_74 rfl (lv_at hl 3 rfl) ?_
              refine lv_sipush (v := (-1000)) hx hb dX6_aside_75 (by decide) ?_
              refine lv_icmp_eq (tgt := 92) hx hb dX6_aside_78 (by decide) (fun c_78 => ?_) (fun c_78 => ?_)
              · refine lv_iconst (v := 1) hx hb dX6_aside_92 (by decide) ?_
                refine lv_goto (tgt := 97) hx hb dX6_aside_93 (by decide) ?_
                refine x_tp (y := bv (rIn (a 7) (a 8) (a 9) x (a 7 k) (a 9 k) (a 8 k) ∧ rAhB (a 13) none x (rUp (a 7) (a 8) (a 9) (a 13) n (a 7 k) (a 9 k) (a 8 k)) = true)) (bv_t ⟨c_71, by simp [rAhB]⟩).symm ?_
                exact j_97 _ (lv_sub hl [0, 1, 2, 3, 4, 5, 6] rfl)
              · exact absurd rfl c_78
      | succ i1 =>
        have hl := lv_cast (l' := [(0, .ref (b 0)), (1, .int (nI k)), (2, .int (bv (rUp (a 7) (a 8) (a 9) (a 13) n (a 7 k) (a 9 k) (a 8 k)))), (3, .int (nI (f i1))), (4, .int (bv (rAsP (a 13) f (i1 + 1) = true))), (5, .int (bv (i1 + 1 ≤ q)))]) hl (by rw [show enc (rPrev f (i1 + 1)) = nI (f i1) from rfl])
        have hfl0 := rNxt_lt (hsel i1 (by omega))
        have hfl := rNxt_lt (hsel (i1 + 1) c_27)
        have hsl : rNxt (a 7) (a 8) (a 9) (a 13) (a 7 k) (a 9 k) (a 8 k) (rUp (a 7) (a 8) (a 9) (a 13) n (a 7 k) (a 9 k) (a 8 k)) (some (f i1)) n = some (f (i1 + 1)) := hsel (i1 + 1) c_27
        refine lv_sipush (v := (-1000)) hx hb dX6_aside_30 (by decide) ?_
        refine x_tp (y := enc (rNxt (a 7) (a 8) (a 9) (a 13) (a 7 k) (a 9 k) (a 8 k) (rUp (a 7) (a 8) (a 9) (a 13) n (a 7 k) (a 9 k) (a 8 k)) (some (f i1)) 0)) rfl ?_
        refine lv_istore (lv' := [(6, .int (enc (rNxt (a 7) (a 8) (a 9) (a 13) (a 7 k) (a 9 k) (a 8 k) (rUp (a 7) (a 8) (a 9) (a 13) n (a 7 k) (a 9 k) (a 8 k)) (some (f i1)) 0))), (0, .ref (b 0)), (1, .int (nI k)), (2, .int (bv (rUp (a 7) (a 8) (a 9) (a 13) n (a 7 k) (a 9 k) (a 8 k)))), (3, .int (nI (f i1))), (4, .int (bv (rAsP (a 13) f (i1 + 1) = true))), (5, .int (bv (i1 + 1 ≤ q)))]) hx hb dX6_aside_33 hl (by decide) rfl (fun ls hl => ?_)
        refine lv_iconst (v := 0) hx hb dX6_aside_35 (by decide) ?_
        refine x_tp (y := nI 0) nI_0.symm ?_
        refine lv_istore (lv' := [(7, .int (nI 0)), (6, .int (enc (rNxt (a 7) (a 8) (a 9) (a 13) (a 7 k) (a 9 k) (a 8 k) (rUp (a 7) (a 8) (a 9) (a 13) n (a 7 k) (a 9 k) (a 8 k)) (some (f i1)) 0))), (0, .ref (b 0)), (1, .int (nI k)), (2, .int (bv (rUp (a 7) (a 8) (a 9) (a 13) n (a 7 k) (a 9 k) (a 8 k)))), (3, .int (nI (f i1))), (4, .int (bv (rAsP (a 13) f (i1 + 1) = true))), (5, .int (bv (i1 + 1 ≤ q)))]) hx hb dX6_aside_36 hl (by decide) rfl (fun ls hl => ?_)
        refine lpR (G := fun ls => W p l e _ s mi _ below meth c _ _ _ _ _ (F0 mi 38 ls [])) 9 n (fun x (_ : Unit) => [(0, .ref (b 0)), (1, .int (nI k)), (2, .int (bv (rUp (a 7) (a 8) (a 9) (a 13) n (a 7 k) (a 9 k) (a 8 k)))), (3, .int (nI (f i1))), (4, .int (bv (rAsP (a 13) f (i1 + 1) = true))), (6, .int (enc (rNxt (a 7) (a 8) (a 9) (a 13) (a 7 k) (a 9 k) (a 8 k) (rUp (a 7) (a 8) (a 9) (a 13) n (a 7 k) (a 9 k) (a 8 k)) (some (f i1)) x))), (7, .int (nI x))]) (fun _ _ => True) ?_ 0 () (Nat.zero_le _) trivial (lv_sub hl [2, 3, 4, 5, 6, 1, 0] rfl)
        clear hl ls
        intro x gu hx1 hxI ls hl ihx
        refine lv_iload hx hb dX6_aside_38 (lv_at hl 6 rfl) ?_
        refine lv_aload_n hx hb dX6_aside_40 rfl (lv_at hl 0 rfl) ?_
        refine va_get (D := D) (ci := 6) (v := .int (nI n)) (C := RX6) (T := TX6) (N := 23) hx hb hts hiX60 hown hK.1 hP 0 rfl rfl 9 (by decide) f0 (fun _ h9 => h9) rfl dX6_aside_41 ?_
        refine x_nge (tgt := 139) hx hb dX6_aside_44 (by decide) (by omega) (by omega) (fun c_44 => ?_) (fun c_44 => ?_)
        · obtain rfl : n = x := by omega
          have hl := lv_cast (l' := [(0, .ref (b 0)), (1, .int (nI k)), (2, .int (bv (rUp (a 7) (a 8) (a 9) (a 13) n (a 7 k) (a 9 k) (a 8 k)))), (3, .int (nI (f i1))), (4, .int (bv (rAsP (a 13) f (i1 + 1) = true))), (6, .int (nI (f (i1 + 1)))), (7, .int (nI n))]) hl (by rw [show enc (rNxt (a 7) (a 8) (a 9) (a 13) (a 7 k) (a 9 k) (a 8 k) (rUp (a 7) (a 8) (a 9) (a 13) n (a 7 k) (a 9 k) (a 8 k)) (some (f i1)) n) = nI (f (i1 + 1)) from (by rw [hsl]; rfl)])
          refine lv_iload_n hx hb dX6_aside_139 rfl (lv_at hl 3 rfl) ?_
          refine lv_sipush (v := (-1000)) hx hb dX6_aside_140 (by decide) ?_
          refine lv_icmp_ne (tgt := 151) hx hb dX6_aside_143 (by decide) (fun c_143 => ?_) (fun c_143 => ?_)
          · refine lv_aload_n hx hb dX6_aside_151 rfl (lv_at hl 0 rfl) ?_
            refine lv_iload hx hb dX6_aside_152 (lv_at hl 5 rfl) ?_
            refine rcVi (As := [.int (nI (f (i1 + 1)))]) (rest := []) ⟨hx, hb, hml, hown, hts⟩ (k6_step l D b cA u n m a (f (i1 + 1)) (by omega)) (cwV 1 hts gX6_aside_X6_step rfl rfl rfl (by decide +kernel) ⟨Nat.le_of_ble_eq_true rfl, Nat.le_of_ble_eq_true rfl⟩) (va_recv hK.1 hP (ci := 6) (q0 := 0) rfl rfl) hP hK rfl hl.1 rfl (Nat.le_of_ble_eq_true rfl) dX6_aside_154 ⟨Nat.zero_le _, Nat.zero_le _⟩ ?_
            refine lv_aload_n hx hb dX6_aside_157 rfl (lv_at hl 0 rfl) ?_
            refine lv_iload_n hx hb dX6_aside_158 rfl (lv_at hl 3 rfl) ?_
            refine rcVi (As := [.int (nI (f i1))]) (rest := [.int (a 13 (f (i1 + 1)))]) ⟨hx, hb, hml, hown, hts⟩ (k6_step l D b cA u n m a (f i1) (by omega)) (cwV 1 hts gX6_aside_X6_step rfl rfl rfl (by decide +kernel) ⟨Nat.le_of_ble_eq_true rfl, Nat.le_of_ble_eq_true rfl⟩) (va_recv hK.1 hP (ci := 6) (q0 := 0) rfl rfl) hP hK rfl hl.1 rfl (Nat.le_of_ble_eq_true rfl) dX6_aside_159 ⟨Nat.zero_le _, Nat.zero_le _⟩ ?_
            refine lv_isub hx hb dX6_aside_162 ?_
            refine lv_istore (lv' := [(7, .int ((a 13 (f (i1 + 1))) - (a 13 (f i1)))), (0, .ref (b 0)), (1, .int (nI k)), (2, .int (bv (rUp (a 7) (a 8) (a 9) (a 13) n (a 7 k) (a 9 k) (a 8 k)))), (3, .int (nI (f i1))), (4, .int (bv (rAsP (a 13) f (i1 + 1) = true))), (6, .int (nI (f (i1 + 1))))]) hx hb dX6_aside_163 hl (by decide) rfl (fun ls hl => ?_)
            refine x_join 9 [(7, .int ((a 13 (f (i1 + 1))) - (a 13 (f i1)))), (0, .ref (b 0)), (1, .int (nI k)), (2, .int (bv (rUp (a 7) (a 8) (a 9) (a 13) n (a 7 k) (a 9 k) (a 8 k)))), (3, .int (nI (f i1))), (4, .int (bv (rAsP (a 13) f (i1 + 1) = true))), (6, .int (nI (f (i1 + 1))))] 187 [.int (bv (rAsP (a 13) f (i1 + 1 + 1) = true))] ?_ (fun j_187 => ?_)
            · intro ls hl
              refine lv_istore (lv' := [(4, .int (bv (rAsP (a 13) f (i1 + 1 + 1) = true))), (7, .int ((a 13 (f (i1 + 1))) - (a 13 (f i1)))), (0, .ref (b 0)), (1, .int (nI k)), (2, .int (bv (rUp (a 7) (a 8) (a 9) (a 13) n (a 7 k) (a 9 k) (a 8 k)))), (3, .int (nI (f i1))), (6, .int (nI (f (i1 + 1))))]) hx hb dX6_aside_187 hl (by decide) rfl (fun ls hl => ?_)
              refine lv_iload hx hb dX6_aside_189 (lv_at hl 6 rfl) ?_
              refine lv_istore_n (lv' := [(3, .int (nI (f (i1 + 1)))), (4, .int (bv (rAsP (a 13) f (i1 + 1 + 1) = true))), (7, .int ((a 13 (f (i1 + 1))) - (a 13 (f i1)))), (0, .ref (b 0)), (1, .int (nI k)), (2, .int (bv (rUp (a 7) (a 8) (a 9) (a 13) n (a 7 k) (a 9 k) (a 8 k)))), (6, .int (nI (f (i1 + 1))))]) hx hb dX6_aside_191 rfl hl (by decide) rfl (fun ls hl => ?_)
              refine lv_iload_n hx hb dX6_aside_192 rfl (lv_at hl 0 rfl) ?_
              refine lv_iload_n hx hb dX6_aside_193 rfl (lv_at hl 4 rfl) ?_
              refine x_neq (tgt := 201) hx hb dX6_aside_194 (by decide) (by omega) (by omega) (fun c_194 => ?_) (fun c_194 => ?_)
              · refine lv_iconst (v := 0) hx hb dX6_aside_201 (by decide) ?_
                refine x_tp (y := bv (i1 + 1 + 1 ≤ q)) (bv_f (fun h => hne _ (by omega) c_194)).symm ?_
                refine lv_istore (lv' := [(5, .int (bv (i1 + 1 + 1 ≤ q))), (3, .int (nI (f (i1 + 1)))), (4, .int (bv (rAsP (a 13) f (i1 + 1 + 1) = true))), (7, .int ((a 13 (f (i1 + 1))) - (a 13 (f i1)))), (0, .ref (b 0)), (1, .int (nI k)), (2, .int (bv (rUp (a 7) (a 8) (a 9) (a 13) n (a 7 k) (a 9 k) (a 8 k)))), (6, .int (nI (f (i1 + 1))))]) hx hb dX6_aside_202 hl (by decide) rfl (fun ls hl => ?_)
                have hl := lv_cast (l' := [(5, .int (bv (i1 + 1 + 1 ≤ q))), (3, .int (enc (rPrev f (i1 + 1 + 1)))), (4, .int (bv (rAsP (a 13) f (i1 + 1 + 1) = true))), (7, .int ((a 13 (f (i1 + 1))) - (a 13 (f i1)))), (0, .ref (b 0)), (1, .int (nI k)), (2, .int (bv (rUp (a 7) (a 8) (a 9) (a 13) n (a 7 k) (a 9 k) (a 8 k)))), (6, .int (nI (f (i1 + 1))))]) hl (by rw [show nI (f (i1 + 1)) = enc (rPrev f (i1 + 1 + 1)) from rfl])
                refine lv_goto (tgt := 25) hx hb dX6_aside_204 (by decide) ?_
                exact ihi (by omega) () _ trivial (lv_sub hl [4, 5, 6, 1, 2, 0] rfl)
              · refine lv_iconst (v := 1) hx hb dX6_aside_197 (by decide) ?_
                refine lv_goto (tgt := 202) hx hb dX6_aside_198 (by decide) ?_
                refine x_tp (y := bv (i1 + 1 + 1 ≤ q)) (bv_t (by have h9 : ¬ i1 + 1 = q := (fun h => c_194 (by rw [h]; exact hfq)); omega)).symm ?_
                refine lv_istore (lv' := [(5, .int (bv (i1 + 1 + 1 ≤ q))), (3, .int (nI (f (i1 + 1)))), (4, .int (bv (rAsP (a 13) f (i1 + 1 + 1) = true))), (7, .int ((a 13 (f (i1 + 1))) - (a 13 (f i1)))), (0, .ref (b 0)), (1, .int (nI k)), (2, .int (bv (rUp (a 7) (a 8) (a 9) (a 13) n (a 7 k) (a 9 k) (a 8 k)))), (6, .int (nI (f (i1 + 1))))]) hx hb dX6_aside_202 hl (by decide) rfl (fun ls hl => ?_)
                have hl := lv_cast (l' := [(5, .int (bv (i1 + 1 + 1 ≤ q))), (3, .int (enc (rPrev f (i1 + 1 + 1)))), (4, .int (bv (rAsP (a 13) f (i1 + 1 + 1) = true))), (7, .int ((a 13 (f (i1 + 1))) - (a 13 (f i1)))), (0, .ref (b 0)), (1, .int (nI k)), (2, .int (bv (rUp (a 7) (a 8) (a 9) (a 13) n (a 7 k) (a 9 k) (a 8 k)))), (6, .int (nI (f (i1 + 1))))]) hl (by rw [show nI (f (i1 + 1)) = enc (rPrev f (i1 + 1 + 1)) from rfl])
                refine lv_goto (tgt := 25) hx hb dX6_aside_204 (by decide) ?_
                exact ihi (by omega) () _ trivial (lv_sub hl [4, 5, 6, 1, 2, 0] rfl)
            refine lv_iload hx hb dX6_aside_165 (lv_at hl 0 rfl) ?_
            refine lv_iconst (v := (-1)) hx hb dX6_aside_167 (by decide) ?_
            refine lv_icmp_lt (tgt := 186) hx hb dX6_aside_168 (by decide) (fun c_168 => ?_) (fun c_168 => ?_)
            · refine lv_iconst (v := 0) hx hb dX6_aside_186 (by decide) ?_
              refine x_tp (y := bv (rAsP (a 13) f (i1 + 1 + 1) = true)) (bv_f (fun h => (rAsd_i h).1 c_168)).symm ?_
              exact j_187 _ (lv_sub hl [0, 1, 2, 3, 4, 5, 6] rfl)
            · refine lv_iload hx hb dX6_aside_171 (lv_at hl 0 rfl) ?_
              refine lv_iconst (v := 1) hx hb dX6_aside_173 (by decide) ?_
              refine lv_icmp_gt (tgt := 186) hx hb dX6_aside_174 (by decide) (fun c_174 => ?_) (fun c_174 => ?_)
              · refine lv_iconst (v := 0) hx hb dX6_aside_186 (by decide) ?_
                refine x_tp (y := bv (rAsP (a 13) f (i1 + 1 + 1) = true)) (bv_f (fun h => (rAsd_i h).2.1 c_174)).symm ?_
                exact j_187 _ (lv_sub hl [0, 1, 2, 3, 4, 5, 6] rfl)
              · refine lv_iload hx hb dX6_aside_177 (lv_at hl 5 rfl) ?_
                refine x_ifne (tgt := 186) hx hb dX6_aside_179 (by decide) (fun c_179 => ?_) (fun c_179 => ?_)
                · refine lv_iconst (v := 0) hx hb dX6_aside_186 (by decide) ?_
                  refine x_tp (y := bv (rAsP (a 13) f (i1 + 1 + 1) = true)) (bv_f (fun h => (rAsd_i h).2.2 c_179)).symm ?_
                  exact j_187 _ (lv_sub hl [0, 1, 2, 3, 4, 5, 6] rfl)
                · refine lv_iconst (v := 1) hx hb dX6_aside_182 (by decide) ?_
                  refine lv_goto (tgt := 187) hx hb dX6_aside_183 (by decide) ?_
                  refine x_tp (y := bv (rAsP (a 13) f (i1 + 1 + 1) = true)) (bv_t (rAsd_t c_168 c_174 c_179)).symm ?_
                  exact j_187 _ (lv_sub hl [0, 1, 2, 3, 4, 5, 6] rfl)
          · exact absurd c_143 (nI_nm (by omega))
        · cases ho : rNxt (a 7) (a 8) (a 9) (a 13) (a 7 k) (a 9 k) (a 8 k) (rUp (a 7) (a 8) (a 9) (a 13) n (a 7 k) (a 9 k) (a 8 k)) (some (f i1)) x with
          | none =>
            have hl := lv_cast (l' := [(0, .ref (b 0)), (1, .int (nI k)), (2, .int (bv (rUp (a 7) (a 8) (a 9) (a 13) n (a 7 k) (a 9 k) (a 8 k)))), (3, .int (nI (f i1))), (4, .int (bv (rAsP (a 13) f (i1 + 1) = true))), (6, .int (-1000)), (7, .int (nI x))]) hl (by rw [show enc (rNxt (a 7) (a 8) (a 9) (a 13) (a 7 k) (a 9 k) (a 8 k) (rUp (a 7) (a 8) (a 9) (a 13) n (a 7 k) (a 9 k) (a 8 k)) (some (f i1)) x) = (-1000) from (by rw [ho]; rfl)])
            refine lv_aload_n hx hb dX6_aside_47 rfl (lv_at hl 0 rfl) ?_
            refine x_join 9 [(0, .ref (b 0)), (1, .int (nI k)), (2, .int (bv (rUp (a 7) (a 8) (a 9) (a 13) n (a 7 k) (a 9 k) (a 8 k)))), (3, .int (nI (f i1))), (4, .int (bv (rAsP (a 13) f (i1 + 1) = true))), (6, .int (-1000)), (7, .int (nI x))] 97 [.int (bv (rIn (a 7) (a 8) (a 9) x (a 7 k) (a 9 k) (a 8 k) ∧ rAhB (a 13) (some (f i1)) x (rUp (a 7) (a 8) (a 9) (a 13) n (a 7 k) (a 9 k) (a 8 k)) = true))] ?_ (fun j_97 => ?_)
            · intro ls hl
              refine lv_istore (lv' := [(8, .int (bv (rIn (a 7) (a 8) (a 9) x (a 7 k) (a 9 k) (a 8 k) ∧ rAhB (a 13) (some (f i1)) x (rUp (a 7) (a 8) (a 9) (a 13) n (a 7 k) (a 9 k) (a 8 k)) = true))), (0, .ref (b 0)), (1, .int (nI k)), (2, .int (bv (rUp (a 7) (a 8) (a 9) (a 13) n (a 7 k) (a 9 k) (a 8 k)))), (3, .int (nI (f i1))), (4, .int (bv (rAsP (a 13) f (i1 + 1) = true))), (6, .int (-1000)), (7, .int (nI x))]) hx hb dX6_aside_97 hl (by decide) rfl (fun ls hl => ?_)
              refine lv_iload hx hb dX6_aside_99 (lv_at hl 0 rfl) ?_
              refine x_ifeq (tgt := 129) hx hb dX6_aside_101 (by decide) (fun c_101 => ?_) (fun c_101 => ?_)
              · refine lv_iload hx hb dX6_aside_129 (lv_at hl 6 rfl) ?_
                refine x_tp (y := enc (rNxt (a 7) (a 8) (a 9) (a 13) (a 7 k) (a 9 k) (a 8 k) (rUp (a 7) (a 8) (a 9) (a 13) n (a 7 k) (a 9 k) (a 8 k)) (some (f i1)) (x + 1))) (by rw [rNxt, ho, if_neg (fun h => c_101 h.1)]; rfl) ?_
                refine lv_istore (lv' := [(6, .int (enc (rNxt (a 7) (a 8) (a 9) (a 13) (a 7 k) (a 9 k) (a 8 k) (rUp (a 7) (a 8) (a 9) (a 13) n (a 7 k) (a 9 k) (a 8 k)) (some (f i1)) (x + 1)))), (8, .int (bv (rIn (a 7) (a 8) (a 9) x (a 7 k) (a 9 k) (a 8 k) ∧ rAhB (a 13) (some (f i1)) x (rUp (a 7) (a 8) (a 9) (a 13) n (a 7 k) (a 9 k) (a 8 k)) = true))), (0, .ref (b 0)), (1, .int (nI k)), (2, .int (bv (rUp (a 7) (a 8) (a 9) (a 13) n (a 7 k) (a 9 k) (a 8 k)))), (3, .int (nI (f i1))), (4, .int (bv (rAsP (a 13) f (i1 + 1) = true))), (7, .int (nI x))]) hx hb dX6_aside_131 hl (by decide) rfl (fun ls hl => ?_)
                refine lv_iinc (v := nI (x + 1)) (lv' := [(7, .int (nI (x + 1))), (6, .int (enc (rNxt (a 7) (a 8) (a 9) (a 13) (a 7 k) (a 9 k) (a 8 k) (rUp (a 7) (a 8) (a 9) (a 13) n (a 7 k) (a 9 k) (a 8 k)) (some (f i1)) (x + 1)))), (8, .int (bv (rIn (a 7) (a 8) (a 9) x (a 7 k) (a 9 k) (a 8 k) ∧ rAhB (a 13) (some (f i1)) x (rUp (a 7) (a 8) (a 9) (a 13) n (a 7 k) (a 9 k) (a 8 k)) = true))), (0, .ref (b 0)), (1, .int (nI k)), (2, .int (bv (rUp (a 7) (a 8) (a 9) (a 13) n (a 7 k) (a 9 k) (a 8 k)))), (3, .int (nI (f i1))), (4, .int (bv (rAsP (a 13) f (i1 + 1) = true)))]) hx hb dX6_aside_133 hl (k := 7) rfl (x_inc x) (by decide) rfl (fun ls hl => ?_)
                refine lv_goto (tgt := 38) hx hb dX6_aside_136 (by decide) ?_
                exact ihx (by omega) () _ trivial (lv_sub hl [3, 4, 5, 6, 7, 1, 0] rfl)
              · refine lv_iload hx hb dX6_aside_104 (lv_at hl 6 rfl) ?_
                refine lv_sipush (v := (-1000)) hx hb dX6_aside_106 (by decide) ?_
                refine lv_icmp_eq (tgt := 124) hx hb dX6_aside_109 (by decide) (fun c_109 => ?_) (fun c_109 => ?_)
                · refine lv_iload hx hb dX6_aside_124 (lv_at hl 7 rfl) ?_
                  refine lv_goto (tgt := 131) hx hb dX6_aside_126 (by decide) ?_
                  refine x_tp (y := enc (rNxt (a 7) (a 8) (a 9) (a 13) (a 7 k) (a 9 k) (a 8 k) (rUp (a 7) (a 8) (a 9) (a 13) n (a 7 k) (a 9 k) (a 8 k)) (some (f i1)) (x + 1))) (by rw [rNxt, ho, if_pos ⟨c_101, by simp [rAhC]⟩]; rfl) ?_
                  refine lv_istore (lv' := [(6, .int (enc (rNxt (a 7) (a 8) (a 9) (a 13) (a 7 k) (a 9 k) (a 8 k) (rUp (a 7) (a 8) (a 9) (a 13) n (a 7 k) (a 9 k) (a 8 k)) (some (f i1)) (x + 1)))), (8, .int (bv (rIn (a 7) (a 8) (a 9) x (a 7 k) (a 9 k) (a 8 k) ∧ rAhB (a 13) (some (f i1)) x (rUp (a 7) (a 8) (a 9) (a 13) n (a 7 k) (a 9 k) (a 8 k)) = true))), (0, .ref (b 0)), (1, .int (nI k)), (2, .int (bv (rUp (a 7) (a 8) (a 9) (a 13) n (a 7 k) (a 9 k) (a 8 k)))), (3, .int (nI (f i1))), (4, .int (bv (rAsP (a 13) f (i1 + 1) = true))), (7, .int (nI x))]) hx hb dX6_aside_131 hl (by decide) rfl (fun ls hl => ?_)
                  refine lv_iinc (v := nI (x + 1)) (lv' := [(7, .int (nI (x + 1))), (6, .int (enc (rNxt (a 7) (a 8) (a 9) (a 13) (a 7 k) (a 9 k) (a 8 k) (rUp (a 7) (a 8) (a 9) (a 13) n (a 7 k) (a 9 k) (a 8 k)) (some (f i1)) (x + 1)))), (8, .int (bv (rIn (a 7) (a 8) (a 9) x (a 7 k) (a 9 k) (a 8 k) ∧ rAhB (a 13) (some (f i1)) x (rUp (a 7) (a 8) (a 9) (a 13) n (a 7 k) (a 9 k) (a 8 k)) = true))), (0, .ref (b 0)), (1, .int (nI k)), (2, .int (bv (rUp (a 7) (a 8) (a 9) (a 13) n (a 7 k) (a 9 k) (a 8 k)))), (3, .int (nI (f i1))), (4, .int (bv (rAsP (a 13) f (i1 + 1) = true)))]) hx hb dX6_aside_133 hl (k := 7) rfl (x_inc x) (by decide) rfl (fun ls hl => ?_)
                  refine lv_goto (tgt := 38) hx hb dX6_aside_136 (by decide) ?_
                  exact ihx (by omega) () _ trivial (lv_sub hl [3, 4, 5, 6, 7, 1, 0] rfl)
                · exact absurd rfl c_109
            refine lv_iload hx hb dX6_aside_48 (lv_at hl 6 rfl) ?_
            refine lv_aload_n hx hb dX6_aside_50 rfl (lv_at hl 0 rfl) ?_
            refine va_get (D := D) (ci := 6) (v := .ref (b 7)) (C := RX6) (T := TX6) (N := 23) hx hb hts hiX60 hown hK.1 hP 0 rfl rfl 10 (by decide) f1 (fun _ h9 => h9) rfl dX6_aside_51 ?_
            refine lv_iload_n hx hb dX6_aside_54 rfl (lv_at hl 1 rfl) ?_
            refine x_iald hx hb hK hP 7 0 rfl rfl (k := k) (by omega) (by decide) dX6_aside_55 ?_
            refine lv_aload_n hx hb dX6_aside_56 rfl (lv_at hl 0 rfl) ?_
            refine va_get (D := D) (ci := 6) (v := .ref (b 9)) (C := RX6) (T := TX6) (N := 23) hx hb hts hiX60 hown hK.1 hP 0 rfl rfl 12 (by decide) f2 (fun _ h9 => h9) rfl dX6_aside_57 ?_
            refine lv_iload_n hx hb dX6_aside_60 rfl (lv_at hl 1 rfl) ?_
            refine x_iald hx hb hK hP 9 0 rfl rfl (k := k) (by omega) (by decide) dX6_aside_61 ?_
            refine lv_aload_n hx hb dX6_aside_62 rfl (lv_at hl 0 rfl) ?_
            refine va_get (D := D) (ci := 6) (v := .ref (b 8)) (C := RX6) (T := TX6) (N := 23) hx hb hts hiX60 hown hK.1 hP 0 rfl rfl 11 (by decide) f3 (fun _ h9 => h9) rfl dX6_aside_63 ?_
            refine lv_iload_n hx hb dX6_aside_66 rfl (lv_at hl 1 rfl) ?_
            refine x_iald hx hb hK hP 8 0 rfl rfl (k := k) (by omega) (by decide) dX6_aside_67 ?_
            refine rcVi (As := [.int (nI x), .int (a 7 k), .int (a 9 k), .int (a 8 k)]) (rest := []) ⟨hx, hb, hml, hown, hts⟩ (k6_isIn l D b cA u n m a x (a 7 k) (a 9 k) (a 8 k) (by omega)) (cwV 4 hts gX6_aside_X6_isIn rfl rfl rfl (by decide +kernel) ⟨Nat.le_of_ble_eq_true rfl, Nat.le_of_ble_eq_true rfl⟩) (va_recv hK.1 hP (ci := 6) (q0 := 0) rfl rfl) hP hK rfl hl.1 rfl (Nat.le_of_ble_eq_true rfl) dX6_aside_68 ⟨Nat.zero_le _, Nat.zero_le _⟩ ?_
            refine x_ifeq (tgt := 96) hx hb dX6_aside_71 (by decide) (fun c_71 => ?_) (fun c_71 => ?_)
            · refine lv_iconst (v := 0) hx hb dX6_aside_96 (by decide) ?_
              refine x_tp (y := bv (rIn (a 7) (a 8) (a 9) x (a 7 k) (a 9 k) (a 8 k) ∧ rAhB (a 13) (some (f i1)) x (rUp (a 7) (a 8) (a 9) (a 13) n (a 7 k) (a 9 k) (a 8 k)) = true)) (bv_f (fun h => c_71 h.1)).symm ?_
              exact j_97 _ (lv_sub hl [0, 1, 2, 3, 4, 5, 6] rfl)
            · refine lv_iload_n hx hb dX6_aside_74 rfl (lv_at hl 3 rfl) ?_
              refine lv_sipush (v := (-1000)) hx hb dX6_aside_75 (by decide) ?_
              refine lv_icmp_eq (tgt := 92) hx hb dX6_aside_78 (by decide) (fun c_78 => ?_) (fun c_78 => ?_)
              · exact absurd c_78 (nI_nm (by omega))
              · refine lv_aload_n hx hb dX6_aside_81 rfl (lv_at hl 0 rfl) ?_
                refine lv_iload_n hx hb dX6_aside_82 rfl (lv_at hl 3 rfl) ?_
                refine lv_iload hx hb dX6_aside_83 (lv_at hl 6 rfl) ?_
                refine lv_iload_n hx hb dX6_aside_85 rfl (lv_at hl 2 rfl) ?_
                refine rcVi (As := [.int (nI (f i1)), .int (nI x), .int (bv (rUp (a 7) (a 8) (a 9) (a 13) n (a 7 k) (a 9 k) (a 8 k)))]) (rest := []) ⟨hx, hb, hml, hown, hts⟩ (k6_isAhead l D b cA u n m a (f i1) x (rUp (a 7) (a 8) (a 9) (a 13) n (a 7 k) (a 9 k) (a 8 k)) (by omega) (by omega)) (cwV 3 hts gX6_aside_X6_isAhead rfl rfl rfl (by decide +kernel) ⟨Nat.le_of_ble_eq_true rfl, Nat.le_of_ble_eq_true rfl⟩) (va_recv hK.1 hP (ci := 6) (q0 := 0) rfl rfl) hP hK rfl hl.1 rfl (Nat.le_of_ble_eq_true rfl) dX6_aside_86 ⟨Nat.zero_le _, Nat.zero_le _⟩ ?_
                refine x_ifeq (tgt := 96) hx hb dX6_aside_89 (by decide) (fun c_89 => ?_) (fun c_89 => ?_)
                · refine lv_iconst (v := 0) hx hb dX6_aside_96 (by decide) ?_
                  refine x_tp (y := bv (rIn (a 7) (a 8) (a 9) x (a 7 k) (a 9 k) (a 8 k) ∧ rAhB (a 13) (some (f i1)) x (rUp (a 7) (a 8) (a 9) (a 13) n (a 7 k) (a 9 k) (a 8 k)) = true)) (bv_f (fun h => c_89 (of_decide_eq_true h.2))).symm ?_
                  exact j_97 _ (lv_sub hl [0, 1, 2, 3, 4, 5, 6] rfl)
                · refine lv_iconst (v := 1) hx hb dX6_aside_92 (by decide) ?_
                  refine lv_goto (tgt := 97) hx hb dX6_aside_93 (by decide) ?_
                  refine x_tp (y := bv (rIn (a 7) (a 8) (a 9) x (a 7 k) (a 9 k) (a 8 k) ∧ rAhB (a 13) (some (f i1)) x (rUp (a 7) (a 8) (a 9) (a 13) n (a 7 k) (a 9 k) (a 8 k)) = true)) (bv_t ⟨c_71, by simp [rAhB, c_89]⟩).symm ?_
                  exact j_97 _ (lv_sub hl [0, 1, 2, 3, 4, 5, 6] rfl)
          | some j =>
            have hj := (rNxt_lt ho).1
            have hl := lv_cast (l' := [(0, .ref (b 0)), (1, .int (nI k)), (2, .int (bv (rUp (a 7) (a 8) (a 9) (a 13) n (a 7 k) (a 9 k) (a 8 k)))), (3, .int (nI (f i1))), (4, .int (bv (rAsP (a 13) f (i1 + 1) = true))), (6, .int (nI j)), (7, .int (nI x))]) hl (by rw [show enc (rNxt (a 7) (a 8) (a 9) (a 13) (a 7 k) (a 9 k) (a 8 k) (rUp (a 7) (a 8) (a 9) (a 13) n (a 7 k) (a 9 k) (a 8 k)) (some (f i1)) x) = nI j from (by rw [ho]; rfl)])
            refine lv_aload_n hx hb dX6_aside_47 rfl (lv_at hl 0 rfl) ?_
            refine x_join 9 [(0, .ref (b 0)), (1, .int (nI k)), (2, .int (bv (rUp (a 7) (a 8) (a 9) (a 13) n (a 7 k) (a 9 k) (a 8 k)))), (3, .int (nI (f i1))), (4, .int (bv (rAsP (a 13) f (i1 + 1) = true))), (6, .int (nI j)), (7, .int (nI x))] 97 [.int (bv (rIn (a 7) (a 8) (a 9) x (a 7 k) (a 9 k) (a 8 k) ∧ rAhB (a 13) (some (f i1)) x (rUp (a 7) (a 8) (a 9) (a 13) n (a 7 k) (a 9 k) (a 8 k)) = true))] ?_ (fun j_97 => ?_)
            · intro ls hl
              refine lv_istore (lv' := [(8, .int (bv (rIn (a 7) (a 8) (a 9) x (a 7 k) (a 9 k) (a 8 k) ∧ rAhB (a 13) (some (f i1)) x (rUp (a 7) (a 8) (a 9) (a 13) n (a 7 k) (a 9 k) (a 8 k)) = true))), (0, .ref (b 0)), (1, .int (nI k)), (2, .int (bv (rUp (a 7) (a 8) (a 9) (a 13) n (a 7 k) (a 9 k) (a 8 k)))), (3, .int (nI (f i1))), (4, .int (bv (rAsP (a 13) f (i1 + 1) = true))), (6, .int (nI j)), (7, .int (nI x))]) hx hb dX6_aside_97 hl (by decide) rfl (fun ls hl => ?_)
              refine lv_iload hx hb dX6_aside_99 (lv_at hl 0 rfl) ?_
              refine x_ifeq (tgt := 129) hx hb dX6_aside_101 (by decide) (fun c_101 => ?_) (fun c_101 => ?_)
              · refine lv_iload hx hb dX6_aside_129 (lv_at hl 6 rfl) ?_
                refine x_tp (y := enc (rNxt (a 7) (a 8) (a 9) (a 13) (a 7 k) (a 9 k) (a 8 k) (rUp (a 7) (a 8) (a 9) (a 13) n (a 7 k) (a 9 k) (a 8 k)) (some (f i1)) (x + 1))) (by rw [rNxt, ho, if_neg (fun h => c_101 h.1)]; rfl) ?_
                refine lv_istore (lv' := [(6, .int (enc (rNxt (a 7) (a 8) (a 9) (a 13) (a 7 k) (a 9 k) (a 8 k) (rUp (a 7) (a 8) (a 9) (a 13) n (a 7 k) (a 9 k) (a 8 k)) (some (f i1)) (x + 1)))), (8, .int (bv (rIn (a 7) (a 8) (a 9) x (a 7 k) (a 9 k) (a 8 k) ∧ rAhB (a 13) (some (f i1)) x (rUp (a 7) (a 8) (a 9) (a 13) n (a 7 k) (a 9 k) (a 8 k)) = true))), (0, .ref (b 0)), (1, .int (nI k)), (2, .int (bv (rUp (a 7) (a 8) (a 9) (a 13) n (a 7 k) (a 9 k) (a 8 k)))), (3, .int (nI (f i1))), (4, .int (bv (rAsP (a 13) f (i1 + 1) = true))), (7, .int (nI x))]) hx hb dX6_aside_131 hl (by decide) rfl (fun ls hl => ?_)
                refine lv_iinc (v := nI (x + 1)) (lv' := [(7, .int (nI (x + 1))), (6, .int (enc (rNxt (a 7) (a 8) (a 9) (a 13) (a 7 k) (a 9 k) (a 8 k) (rUp (a 7) (a 8) (a 9) (a 13) n (a 7 k) (a 9 k) (a 8 k)) (some (f i1)) (x + 1)))), (8, .int (bv (rIn (a 7) (a 8) (a 9) x (a 7 k) (a 9 k) (a 8 k) ∧ rAhB (a 13) (some (f i1)) x (rUp (a 7) (a 8) (a 9) (a 13) n (a 7 k) (a 9 k) (a 8 k)) = true))), (0, .ref (b 0)), (1, .int (nI k)), (2, .int (bv (rUp (a 7) (a 8) (a 9) (a 13) n (a 7 k) (a 9 k) (a 8 k)))), (3, .int (nI (f i1))), (4, .int (bv (rAsP (a 13) f (i1 + 1) = true)))]) hx hb dX6_aside_133 hl (k := 7) rfl (x_inc x) (by decide) rfl (fun ls hl => ?_)
                refine lv_goto (tgt := 38) hx hb dX6_aside_136 (by decide) ?_
                exact ihx (by omega) () _ trivial (lv_sub hl [3, 4, 5, 6, 7, 1, 0] rfl)
              · refine lv_iload hx hb dX6_aside_104 (lv_at hl 6 rfl) ?_
                refine lv_sipush (v := (-1000)) hx hb dX6_aside_106 (by decide) ?_
                refine lv_icmp_eq (tgt := 124) hx hb dX6_aside_109 (by decide) (fun c_109 => ?_) (fun c_109 => ?_)
                · exact absurd c_109 (nI_nm (by omega))
                · refine lv_aload_n hx hb dX6_aside_112 rfl (lv_at hl 1 rfl) ?_
                  refine lv_iload hx hb dX6_aside_113 (lv_at hl 7 rfl) ?_
                  refine lv_iload hx hb dX6_aside_115 (lv_at hl 6 rfl) ?_
                  refine lv_iload_n hx hb dX6_aside_117 rfl (lv_at hl 3 rfl) ?_
                  refine rcVi (As := [.int (nI x), .int (nI j), .int (bv (rUp (a 7) (a 8) (a 9) (a 13) n (a 7 k) (a 9 k) (a 8 k)))]) (rest := []) ⟨hx, hb, hml, hown, hts⟩ (k6_isAhead l D b cA u n m a x j (rUp (a 7) (a 8) (a 9) (a 13) n (a 7 k) (a 9 k) (a 8 k)) (by omega) (by omega)) (cwV 3 hts gX6_aside_X6_isAhead rfl rfl rfl (by decide +kernel) ⟨Nat.le_of_ble_eq_true rfl, Nat.le_of_ble_eq_true rfl⟩) (va_recv hK.1 hP (ci := 6) (q0 := 0) rfl rfl) hP hK rfl hl.1 rfl (Nat.le_of_ble_eq_true rfl) dX6_aside_118 ⟨Nat.zero_le _, Nat.zero_le _⟩ ?_
                  refine x_ifeq (tgt := 129) hx hb dX6_aside_121 (by decide) (fun c_121 => ?_) (fun c_121 => ?_)
                  · refine lv_iload hx hb dX6_aside_129 (lv_at hl 6 rfl) ?_
                    refine x_tp (y := enc (rNxt (a 7) (a 8) (a 9) (a 13) (a 7 k) (a 9 k) (a 8 k) (rUp (a 7) (a 8) (a 9) (a 13) n (a 7 k) (a 9 k) (a 8 k)) (some (f i1)) (x + 1))) (by rw [rNxt, ho, if_neg (fun h => c_121 (of_decide_eq_true h.2))]; rfl) ?_
                    refine lv_istore (lv' := [(6, .int (enc (rNxt (a 7) (a 8) (a 9) (a 13) (a 7 k) (a 9 k) (a 8 k) (rUp (a 7) (a 8) (a 9) (a 13) n (a 7 k) (a 9 k) (a 8 k)) (some (f i1)) (x + 1)))), (8, .int (bv (rIn (a 7) (a 8) (a 9) x (a 7 k) (a 9 k) (a 8 k) ∧ rAhB (a 13) (some (f i1)) x (rUp (a 7) (a 8) (a 9) (a 13) n (a 7 k) (a 9 k) (a 8 k)) = true))), (0, .ref (b 0)), (1, .int (nI k)), (2, .int (bv (rUp (a 7) (a 8) (a 9) (a 13) n (a 7 k) (a 9 k) (a 8 k)))), (3, .int (nI (f i1))), (4, .int (bv (rAsP (a 13) f (i1 + 1) = true))), (7, .int (nI x))]) hx hb dX6_aside_131 hl (by decide) rfl (fun ls hl => ?_)
                    refine lv_iinc (v := nI (x + 1)) (lv' := [(7, .int (nI (x + 1))), (6, .int (enc (rNxt (a 7) (a 8) (a 9) (a 13) (a 7 k) (a 9 k) (a 8 k) (rUp (a 7) (a 8) (a 9) (a 13) n (a 7 k) (a 9 k) (a 8 k)) (some (f i1)) (x + 1)))), (8, .int (bv (rIn (a 7) (a 8) (a 9) x (a 7 k) (a 9 k) (a 8 k) ∧ rAhB (a 13) (some (f i1)) x (rUp (a 7) (a 8) (a 9) (a 13) n (a 7 k) (a 9 k) (a 8 k)) = true))), (0, .ref (b 0)), (1, .int (nI k)), (2, .int (bv (rUp (a 7) (a 8) (a 9) (a 13) n (a 7 k) (a 9 k) (a 8 k)))), (3, .int (nI (f i1))), (4, .int (bv (rAsP (a 13) f (i1 + 1) = true)))]) hx hb dX6_aside_133 hl (k := 7) rfl (x_inc x) (by decide) rfl (fun ls hl => ?_)
                    refine lv_goto (tgt := 38) hx hb dX6_aside_136 (by decide) ?_
                    exact ihx (by omega) () _ trivial (lv_sub hl [3, 4, 5, 6, 7, 1, 0] rfl)
                  · refine lv_iload hx hb dX6_aside_124 (lv_at hl 7 rfl) ?_
                    refine lv_goto (tgt := 131) hx hb dX6_aside_126 (by decide) ?_
                    refine x_tp (y := enc (rNxt (a 7) (a 8) (a 9) (a 13) (a 7 k) (a 9 k) (a 8 k) (rUp (a 7) (a 8) (a 9) (a 13) n (a 7 k) (a 9 k) (a 8 k)) (some (f i1)) (x + 1))) (by rw [rNxt, ho, if_pos ⟨c_101, by simp [rAhC, c_121]⟩]; rfl) ?_
                    refine lv_istore (lv' := [(6, .int (enc (rNxt (a 7) (a 8) (a 9) (a 13) (a 7 k) (a 9 k) (a 8 k) (rUp (a 7) (a 8) (a 9) (a 13) n (a 7 k) (a 9 k) (a 8 k)) (some (f i1)) (x + 1)))), (8, .int (bv (rIn (a 7) (a 8) (a 9) x (a 7 k) (a 9 k) (a 8 k) ∧ rAhB (a 13) (some (f i1)) x (rUp (a 7) (a 8) (a 9) (a 13) n (a 7 k) (a 9 k) (a 8 k)) = true))), (0, .ref (b 0)), (1, .int (nI k)), (2, .int (bv (rUp (a 7) (a 8) (a 9) (a 13) n (a 7 k) (a 9 k) (a 8 k)))), (3, .int (nI (f i1))), (4, .int (bv (rAsP (a 13) f (i1 + 1) = true))), (7, .int (nI x))]) hx hb dX6_aside_131 hl (by decide) rfl (fun ls hl => ?_)
                    refine lv_iinc (v := nI (x + 1)) (lv' := [(7, .int (nI (x + 1))), (6, .int (enc (rNxt (a 7) (a 8) (a 9) (a 13) (a 7 k) (a 9 k) (a 8 k) (rUp (a 7) (a 8) (a 9) (a 13) n (a 7 k) (a 9 k) (a 8 k)) (some (f i1)) (x + 1)))), (8, .int (bv (rIn (a 7) (a 8) (a 9) x (a 7 k) (a 9 k) (a 8 k) ∧ rAhB (a 13) (some (f i1)) x (rUp (a 7) (a 8) (a 9) (a 13) n (a 7 k) (a 9 k) (a 8 k)) = true))), (0, .ref (b 0)), (1, .int (nI k)), (2, .int (bv (rUp (a 7) (a 8) (a 9) (a 13) n (a 7 k) (a 9 k) (a 8 k)))), (3, .int (nI (f i1))), (4, .int (bv (rAsP (a 13) f (i1 + 1) = true)))]) hx hb dX6_aside_133 hl (k := 7) rfl (x_inc x) (by decide) rfl (fun ls hl => ?_)
                    refine lv_goto (tgt := 38) hx hb dX6_aside_136 (by decide) ?_
                    exact ihx (by omega) () _ trivial (lv_sub hl [3, 4, 5, 6, 7, 1, 0] rfl)
            refine lv_iload hx hb dX6_aside_48 (lv_at hl 6 rfl) ?_
            refine lv_aload_n hx hb dX6_aside_50 rfl (lv_at hl 0 rfl) ?_
            refine va_get (D := D) (ci := 6) (v := .ref (b 7)) (C := RX6) (T := TX6) (N := 23) hx hb hts hiX60 hown hK.1 hP 0 rfl rfl 10 (by decide) f1 (fun _ h9 => h9) rfl dX6_aside_51 ?_
            refine lv_iload_n hx hb dX6_aside_54 rfl (lv_at hl 1 rfl) ?_
            refine x_iald hx hb hK hP 7 0 rfl rfl (k := k) (by omega) (by decide) dX6_aside_55 ?_
            refine lv_aload_n hx hb dX6_aside_56 rfl (lv_at hl 0 rfl) ?_
            refine va_get (D := D) (ci := 6) (v := .ref (b 9)) (C := RX6) (T := TX6) (N := 23) hx hb hts hiX60 hown hK.1 hP 0 rfl rfl 12 (by decide) f2 (fun _ h9 => h9) rfl dX6_aside_57 ?_
            refine lv_iload_n hx hb dX6_aside_60 rfl (lv_at hl 1 rfl) ?_
            refine x_iald hx hb hK hP 9 0 rfl rfl (k := k) (by omega) (by decide) dX6_aside_61 ?_
            refine lv_aload_n hx hb dX6_aside_62 rfl (lv_at hl 0 rfl) ?_
            refine va_get (D := D) (ci := 6) (v := .ref (b 8)) (C := RX6) (T := TX6) (N := 23) hx hb hts hiX60 hown hK.1 hP 0 rfl rfl 11 (by decide) f3 (fun _ h9 => h9) rfl dX6_aside_63 ?_
            refine lv_iload_n hx hb dX6_aside_66 rfl (lv_at hl 1 rfl) ?_
            refine x_iald hx hb hK hP 8 0 rfl rfl (k := k) (by omega) (by decide) dX6_aside_67 ?_
            refine rcVi (As := [.int (nI x), .int (a 7 k), .int (a 9 k), .int (a 8 k)]) (rest := []) ⟨hx, hb, hml, hown, hts⟩ (k6_isIn l D b cA u n m a x (a 7 k) (a 9 k) (a 8 k) (by omega)) (cwV 4 hts gX6_aside_X6_isIn rfl rfl rfl (by decide +kernel) ⟨Nat.le_of_ble_eq_true rfl, Nat.le_of_ble_eq_true rfl⟩) (va_recv hK.1 hP (ci := 6) (q0 := 0) rfl rfl) hP hK rfl hl.1 rfl (Nat.le_of_ble_eq_true rfl) dX6_aside_68 ⟨Nat.zero_le _, Nat.zero_le _⟩ ?_
            refine x_ifeq (tgt := 96) hx hb dX6_aside_71 (by decide) (fun c_71 => ?_) (fun c_71 => ?_)
            · refine lv_iconst (v := 0) hx hb dX6_aside_96 (by decide) ?_
              refine x_tp (y := bv (rIn (a 7) (a 8) (a 9) x (a 7 k) (a 9 k) (a 8 k) ∧ rAhB (a 13) (some (f i1)) x (rUp (a 7) (a 8) (a 9) (a 13) n (a 7 k) (a 9 k) (a 8 k)) = true)) (bv_f (fun h => c_71 h.1)).symm ?_
              exact j_97 _ (lv_sub hl [0, 1, 2, 3, 4, 5, 6] rfl)
            · refine lv_iload_n hx hb dX6_aside_74 rfl (lv_at hl 3 rfl) ?_
              refine lv_sipush (v := (-1000)) hx hb dX6_aside_75 (by decide) ?_
              refine lv_icmp_eq (tgt := 92) hx hb dX6_aside_78 (by decide) (fun c_78 => ?_) (fun c_78 => ?_)
              · exact absurd c_78 (nI_nm (by omega))
              · refine lv_aload_n hx hb dX6_aside_81 rfl (lv_at hl 0 rfl) ?_
                refine lv_iload_n hx hb dX6_aside_82 rfl (lv_at hl 3 rfl) ?_
                refine lv_iload hx hb dX6_aside_83 (lv_at hl 6 rfl) ?_
                refine lv_iload_n hx hb dX6_aside_85 rfl (lv_at hl 2 rfl) ?_
                refine rcVi (As := [.int (nI (f i1)), .int (nI x), .int (bv (rUp (a 7) (a 8) (a 9) (a 13) n (a 7 k) (a 9 k) (a 8 k)))]) (rest := []) ⟨hx, hb, hml, hown, hts⟩ (k6_isAhead l D b cA u n m a (f i1) x (rUp (a 7) (a 8) (a 9) (a 13) n (a 7 k) (a 9 k) (a 8 k)) (by omega) (by omega)) (cwV 3 hts gX6_aside_X6_isAhead rfl rfl rfl (by decide +kernel) ⟨Nat.le_of_ble_eq_true rfl, Nat.le_of_ble_eq_true rfl⟩) (va_recv hK.1 hP (ci := 6) (q0 := 0) rfl rfl) hP hK rfl hl.1 rfl (Nat.le_of_ble_eq_true rfl) dX6_aside_86 ⟨Nat.zero_le _, Nat.zero_le _⟩ ?_
                refine x_ifeq (tgt := 96) hx hb dX6_aside_89 (by decide) (fun c_89 => ?_) (fun c_89 => ?_)
                · refine lv_iconst (v := 0) hx hb dX6_aside_96 (by decide) ?_
                  refine x_tp (y := bv (rIn (a 7) (a 8) (a 9) x (a 7 k) (a 9 k) (a 8 k) ∧ rAhB (a 13) (some (f i1)) x (rUp (a 7) (a 8) (a 9) (a 13) n (a 7 k) (a 9 k) (a 8 k)) = true)) (bv_f (fun h => c_89 (of_decide_eq_true h.2))).symm ?_
                  exact j_97 _ (lv_sub hl [0, 1, 2, 3, 4, 5, 6] rfl)
                · refine lv_iconst (v := 1) hx hb dX6_aside_92 (by decide) ?_
                  refine lv_goto (tgt := 97) hx hb dX6_aside_93 (by decide) ?_
                  refine x_tp (y := bv (rIn (a 7) (a 8) (a 9) x (a 7 k) (a 9 k) (a 8 k) ∧ rAhB (a 13) (some (f i1)) x (rUp (a 7) (a 8) (a 9) (a 13) n (a 7 k) (a 9 k) (a 8 k)) = true)) (bv_t ⟨c_71, by simp [rAhB, c_89]⟩).symm ?_
                  exact j_97 _ (lv_sub hl [0, 1, 2, 3, 4, 5, 6] rfl)
  refine lv_aload_n hx hb dX6_aside_0 rfl (lv_at hl 0 rfl) ?_
  refine lv_iload_n hx hb dX6_aside_1 rfl (lv_at hl 1 rfl) ?_
  refine rcVi (As := [.int (nI k)]) (rest := []) ⟨hx, hb, hml, hown, hts⟩ (k6_stemOf l D b cA u n m a k (by omega) (by omega)) (cwV 1 hts gX6_aside_X6_stemOf rfl rfl rfl (by decide +kernel) ⟨Nat.le_of_ble_eq_true rfl, Nat.le_of_ble_eq_true rfl⟩) (va_recv hK.1 hP (ci := 6) (q0 := 0) rfl rfl) hP hK rfl hl.1 rfl (Nat.le_of_ble_eq_true rfl) dX6_aside_2 ⟨Nat.zero_le _, Nat.zero_le _⟩ ?_
  refine lv_iconst (v := 1) hx hb dX6_aside_5 (by decide) ?_
  refine lv_icmp_ne (tgt := 13) hx hb dX6_aside_6 (by decide) (fun c_6 => ?_) (fun c_6 => ?_)
  · refine lv_iconst (v := 0) hx hb dX6_aside_13 (by decide) ?_
    rw [bv_eq1] at c_6
    refine x_tp (y := bv (rUp (a 7) (a 8) (a 9) (a 13) n (a 7 k) (a 9 k) (a 8 k))) (bv_f c_6).symm ?_
    exact j_14 _ (lv_sub hl [0, 1] rfl)
  · refine lv_iconst (v := 1) hx hb dX6_aside_9 (by decide) ?_
    refine lv_goto (tgt := 14) hx hb dX6_aside_10 (by decide) ?_
    rw [bv_eq1] at c_6
    refine x_tp (y := bv (rUp (a 7) (a 8) (a 9) (a 13) n (a 7 k) (a 9 k) (a 8 k))) (bv_t (c_6)).symm ?_
    exact j_14 _ (lv_sub hl [0, 1] rfl)

set_option maxHeartbeats 4000000 in
set_option maxRecDepth 100000 in
theorem k6_columnFor (l : Launch) (D : va_G) (b : Nat → Nat) (cA : ClassId) (u : Nat → Int32) (n m : Nat) (a : Nat → Nat → Int32) (x : Nat) (p1 p2 r0 : Int32) (hx0 : x < 60) (hn : n ≤ 60) (hr0 : rColFor (a 7) (a 9) (a 13) (a 11) (a 16) n p1 p2 x r0) : Met l yX6_columnFor wsX6_columnFor ({ frames := 1, cells := 0, slots := 0, locals := 23 }) (rPc D (mW b cA u n m a) [(cA, .int)] [.ref (b 0), .int (nI x), .int p1, .int p2]) (vp_Si (fun r => r = r0)) 0 0 (fun _ => False) := by
  refine r_head (C := RX6) (cc := cX6_columnFor) (maxL := 8) (ret := (some .int)) [(0, .ref (b 0)), (1, .int (nI x)), (2, .int p1), (3, .int p2)] (by decide) rfl rfl (Nat.le_of_ble_eq_true rfl) rfl ?_
  intro p e s mi below meth c hx hb hr hlk hml hown hts hP hK ls hl
  have hiX60 : ∀ w ∈ wsX60, w ∈ wsX6_columnFor := fun w h => List.mem_cons_of_mem _ (List.mem_append_right _ h)
  have f0 := hts (.fieldLink RX6 76 "StaffHeadsModel" "notes" "I") (List.mem_of_getElem? (i := 1) rfl)
  have f1 := hts (.fieldLink RX6 62 "StaffHeadsModel" "signColumn" "[I") (List.mem_of_getElem? (i := 2) rfl)
  have f2 := hts (.fieldLink RX6 40 "StaffHeadsModel" "signOf" "[I") (List.mem_of_getElem? (i := 3) rfl)
  refine lv_iconst (v := 0) hx hb dX6_columnFor_0 (by decide) ?_
  refine x_tp (y := nI 0) nI_0.symm ?_
  refine lv_istore (lv' := [(4, .int (nI 0)), (0, .ref (b 0)), (1, .int (nI x)), (2, .int p1), (3, .int p2)]) hx hb dX6_columnFor_1 hl (by decide) rfl (fun ls hl => ?_)
  refine lpR (G := fun ls => W p l e _ s mi _ below meth c _ _ _ _ _ (F0 mi 3 ls [])) 8 n (fun k (_ : Unit) => [(0, .ref (b 0)), (1, .int (nI x)), (2, .int p1), (3, .int p2), (4, .int (nI k))]) (fun k _ => ∀ z, z < k → ¬ rMat (a 7) (a 9) (a 13) (a 11) (a 16) p1 p2 x z) ?_ 0 () (Nat.zero_le _) (fun z h => absurd h (Nat.not_lt_zero z)) (lv_sub hl [1, 2, 3, 4, 0] rfl)
  clear hl ls
  intro k gu hk hkI ls hl ihk
  refine lv_iload hx hb dX6_columnFor_3 (lv_at hl 4 rfl) ?_
  refine lv_aload_n hx hb dX6_columnFor_5 rfl (lv_at hl 0 rfl) ?_
  refine va_get (D := D) (ci := 6) (v := .int (nI n)) (C := RX6) (T := TX6) (N := 23) hx hb hts hiX60 hown hK.1 hP 0 rfl rfl 9 (by decide) f0 (fun _ h9 => h9) rfl dX6_columnFor_6 ?_
  refine x_nge (tgt := 77) hx hb dX6_columnFor_9 (by decide) (by omega) (by omega) (fun c_9 => ?_) (fun c_9 => ?_)
  · obtain rfl : n = k := by omega
    have hl : lv_has ls 8 [(0, .ref (b 0)), (1, .int (nI x)), (2, .int p1), (3, .int p2)] := lv_sub hl [0, 1, 2, 3] rfl
    obtain ⟨d, hd, hrd, hfr, hnf⟩ : ∃ d, d < 100 ∧ r0 = nI (d + 1) ∧ rFree (a 7) (a 9) (a 13) (a 16) n p1 p2 x (nI (d + 1)) ∧ ∀ c, c < d → ¬ rFree (a 7) (a 9) (a 13) (a 16) n p1 p2 x (nI (c + 1)) := by
      rcases hr0 with ⟨k0, g1, g2, g3, g4⟩ | ⟨g1, g2⟩
      · exact absurd g2 (hkI k0 g1)
      · exact g2
    refine lv_iconst (v := 0) hx hb dX6_columnFor_77 (by decide) ?_
    refine x_tp (y := nI 0) nI_0.symm ?_
    refine lv_istore (lv' := [(4, .int (nI 0)), (0, .ref (b 0)), (1, .int (nI x)), (2, .int p1), (3, .int p2)]) hx hb dX6_columnFor_78 hl (by decide) rfl (fun ls hl => ?_)
    refine lv_iconst (v := 0) hx hb dX6_columnFor_80 (by decide) ?_
    refine x_tp (y := bv (0 = d + 1)) (bv_f (by omega)).symm ?_
    refine lv_istore (lv' := [(5, .int (bv (0 = d + 1))), (4, .int (nI 0)), (0, .ref (b 0)), (1, .int (nI x)), (2, .int p1), (3, .int p2)]) hx hb dX6_columnFor_81 hl (by decide) rfl (fun ls hl => ?_)
    refine lpR (G := fun ls => W p l e _ s mi _ below meth c _ _ _ _ _ (F0 mi 83 ls [])) 8 (d + 1) (fun c0 (_ : Unit) => [(0, .ref (b 0)), (1, .int (nI x)), (2, .int p1), (3, .int p2), (4, .int (nI c0)), (5, .int (bv (c0 = d + 1)))]) (fun _ _ => True) ?_ 0 () (Nat.zero_le _) trivial (lv_sub hl [2, 3, 4, 5, 1, 0] rfl)
    clear hl ls
    intro c0 gu hc0 hc0I ls hl ihc0
    refine lv_iload hx hb dX6_columnFor_83 (lv_at hl 5 rfl) ?_
    refine x_ifne (tgt := 178) hx hb dX6_columnFor_85 (by decide) (fun c_85 => ?_) (fun c_85 => ?_)
    · subst c_85
      refine lv_iload hx hb dX6_columnFor_178 (lv_at hl 4 rfl) ?_
      exact r_iret hx hb hr hlk (hrd.symm) dX6_columnFor_180
    · refine lv_iinc (v := nI (c0 + 1)) (lv' := [(4, .int (nI (c0 + 1))), (0, .ref (b 0)), (1, .int (nI x)), (2, .int p1), (3, .int p2), (5, .int (bv (c0 = d + 1)))]) hx hb dX6_columnFor_88 hl (k := 4) rfl (x_inc c0) (by decide) rfl (fun ls hl => ?_)
      refine lv_iconst (v := 1) hx hb dX6_columnFor_91 (by decide) ?_
      refine x_tp (y := bv (∀ z, z < 0 → ¬ rTak (a 7) (a 9) (a 13) (a 16) p1 p2 x (nI (c0 + 1)) z)) (bv_t (fun z h => absurd h (Nat.not_lt_zero z))).symm ?_
      refine lv_istore (lv' := [(5, .int (bv (∀ z, z < 0 → ¬ rTak (a 7) (a 9) (a 13) (a 16) p1 p2 x (nI (c0 + 1)) z))), (4, .int (nI (c0 + 1))), (0, .ref (b 0)), (1, .int (nI x)), (2, .int p1), (3, .int p2)]) hx hb dX6_columnFor_92 hl (by decide) rfl (fun ls hl => ?_)
      refine lv_iconst (v := 0) hx hb dX6_columnFor_94 (by decide) ?_
      refine x_tp (y := nI 0) nI_0.symm ?_
      refine lv_istore (lv' := [(6, .int (nI 0)), (5, .int (bv (∀ z, z < 0 → ¬ rTak (a 7) (a 9) (a 13) (a 16) p1 p2 x (nI (c0 + 1)) z))), (4, .int (nI (c0 + 1))), (0, .ref (b 0)), (1, .int (nI x)), (2, .int p1), (3, .int p2)]) hx hb dX6_columnFor_95 hl (by decide) rfl (fun ls hl => ?_)
      refine lpR (G := fun ls => W p l e _ s mi _ below meth c _ _ _ _ _ (F0 mi 97 ls [])) 8 n (fun k (_ : Unit) => [(0, .ref (b 0)), (1, .int (nI x)), (2, .int p1), (3, .int p2), (4, .int (nI (c0 + 1))), (5, .int (bv (∀ z, z < k → ¬ rTak (a 7) (a 9) (a 13) (a 16) p1 p2 x (nI (c0 + 1)) z))), (6, .int (nI k))]) (fun _ _ => True) ?_ 0 () (Nat.zero_le _) trivial (lv_sub hl [3, 4, 5, 6, 2, 1, 0] rfl)
      clear hl ls
      intro k gu hk hkI ls hl ihk
      refine lv_iload hx hb dX6_columnFor_97 (lv_at hl 6 rfl) ?_
      refine lv_aload_n hx hb dX6_columnFor_99 rfl (lv_at hl 0 rfl) ?_
      refine va_get (D := D) (ci := 6) (v := .int (nI n)) (C := RX6) (T := TX6) (N := 23) hx hb hts hiX60 hown hK.1 hP 0 rfl rfl 9 (by decide) f0 (fun _ h9 => h9) rfl dX6_columnFor_100 ?_
      refine x_nge (tgt := 175) hx hb dX6_columnFor_103 (by decide) (by omega) (by omega) (fun c_103 => ?_) (fun c_103 => ?_)
      · obtain rfl : n = k := by omega
        have hl : lv_has ls 8 [(0, .ref (b 0)), (1, .int (nI x)), (2, .int p1), (3, .int p2), (4, .int (nI (c0 + 1))), (5, .int (bv (∀ z, z < n → ¬ rTak (a 7) (a 9) (a 13) (a 16) p1 p2 x (nI (c0 + 1)) z)))] := lv_sub hl [0, 1, 2, 3, 4, 5] rfl
        have hl := lv_cast (l' := [(0, .ref (b 0)), (1, .int (nI x)), (2, .int p1), (3, .int p2), (4, .int (nI (c0 + 1))), (5, .int (bv (c0 + 1 = d + 1)))]) hl (by rw [show bv (∀ z, z < n → ¬ rTak (a 7) (a 9) (a 13) (a 16) p1 p2 x (nI (c0 + 1)) z) = bv (c0 + 1 = d + 1) from (bv_iff ⟨fun h => Classical.not_not.mp (fun q => hnf c0 (by omega) h), fun h => by rw [show c0 = d from by omega]; exact hfr⟩)])
        refine lv_goto (tgt := 83) hx hb dX6_columnFor_175 (by decide) ?_
        exact ihc0 (by omega) () _ trivial (lv_sub hl [0, 1, 2, 3, 4, 5] rfl)
      · refine lv_aload_n hx hb dX6_columnFor_106 rfl (lv_at hl 0 rfl) ?_
        refine lv_iload hx hb dX6_columnFor_107 (lv_at hl 6 rfl) ?_
        refine rcVi (As := [.int (nI k)]) (rest := []) ⟨hx, hb, hml, hown, hts⟩ (k6_step l D b cA u n m a k (by omega)) (cwV 1 hts gX6_columnFor_X6_step rfl rfl rfl (by decide +kernel) ⟨Nat.le_of_ble_eq_true rfl, Nat.le_of_ble_eq_true rfl⟩) (va_recv hK.1 hP (ci := 6) (q0 := 0) rfl rfl) hP hK rfl hl.1 rfl (Nat.le_of_ble_eq_true rfl) dX6_columnFor_109 ⟨Nat.zero_le _, Nat.zero_le _⟩ ?_
        refine lv_aload_n hx hb dX6_columnFor_112 rfl (lv_at hl 0 rfl) ?_
        refine lv_iload_n hx hb dX6_columnFor_113 rfl (lv_at hl 1 rfl) ?_
        refine rcVi (As := [.int (nI x)]) (rest := [.int (a 13 k)]) ⟨hx, hb, hml, hown, hts⟩ (k6_step l D b cA u n m a x (by omega)) (cwV 1 hts gX6_columnFor_X6_step rfl rfl rfl (by decide +kernel) ⟨Nat.le_of_ble_eq_true rfl, Nat.le_of_ble_eq_true rfl⟩) (va_recv hK.1 hP (ci := 6) (q0 := 0) rfl rfl) hP hK rfl hl.1 rfl (Nat.le_of_ble_eq_true rfl) dX6_columnFor_114 ⟨Nat.zero_le _, Nat.zero_le _⟩ ?_
        refine lv_isub hx hb dX6_columnFor_117 ?_
        refine lv_istore (lv' := [(7, .int ((a 13 k) - (a 13 x))), (0, .ref (b 0)), (1, .int (nI x)), (2, .int p1), (3, .int p2), (4, .int (nI (c0 + 1))), (5, .int (bv (∀ z, z < k → ¬ rTak (a 7) (a 9) (a 13) (a 16) p1 p2 x (nI (c0 + 1)) z))), (6, .int (nI k))]) hx hb dX6_columnFor_118 hl (by decide) rfl (fun ls hl => ?_)
        refine x_join 8 [(7, .int ((a 13 k) - (a 13 x))), (0, .ref (b 0)), (1, .int (nI x)), (2, .int p1), (3, .int p2), (4, .int (nI (c0 + 1))), (6, .int (nI k))] 167 [.int (bv (∀ z, z < k + 1 → ¬ rTak (a 7) (a 9) (a 13) (a 16) p1 p2 x (nI (c0 + 1)) z))] ?_ (fun j_167 => ?_)
        · intro ls hl
          refine lv_istore (lv' := [(5, .int (bv (∀ z, z < k + 1 → ¬ rTak (a 7) (a 9) (a 13) (a 16) p1 p2 x (nI (c0 + 1)) z))), (7, .int ((a 13 k) - (a 13 x))), (0, .ref (b 0)), (1, .int (nI x)), (2, .int p1), (3, .int p2), (4, .int (nI (c0 + 1))), (6, .int (nI k))]) hx hb dX6_columnFor_167 hl (by decide) rfl (fun ls hl => ?_)
          refine lv_iinc (v := nI (k + 1)) (lv' := [(6, .int (nI (k + 1))), (5, .int (bv (∀ z, z < k + 1 → ¬ rTak (a 7) (a 9) (a 13) (a 16) p1 p2 x (nI (c0 + 1)) z))), (7, .int ((a 13 k) - (a 13 x))), (0, .ref (b 0)), (1, .int (nI x)), (2, .int p1), (3, .int p2), (4, .int (nI (c0 + 1)))]) hx hb dX6_columnFor_169 hl (k := 7) rfl (x_inc k) (by decide) rfl (fun ls hl => ?_)
          refine lv_goto (tgt := 97) hx hb dX6_columnFor_172 (by decide) ?_
          exact ihk (by omega) () _ trivial (lv_sub hl [3, 4, 5, 6, 7, 1, 0] rfl)
        refine lv_iload hx hb dX6_columnFor_120 (lv_at hl 6 rfl) ?_
        refine x_ifeq (tgt := 166) hx hb dX6_columnFor_122 (by decide) (fun c_122 => ?_) (fun c_122 => ?_)
        · refine lv_iconst (v := 0) hx hb dX6_columnFor_166 (by decide) ?_
          refine x_tp (y := bv (∀ z, z < k + 1 → ¬ rTak (a 7) (a 9) (a 13) (a 16) p1 p2 x (nI (c0 + 1)) z)) (bv_f (fun h => c_122 (fun z hz => h z (Nat.lt_succ_of_lt hz)))).symm ?_
          exact j_167 _ (lv_sub hl [0, 1, 2, 3, 4, 5, 7] rfl)
        · refine lv_aload_n hx hb dX6_columnFor_125 rfl (lv_at hl 1 rfl) ?_
          refine lv_iload hx hb dX6_columnFor_126 (lv_at hl 7 rfl) ?_
          refine lv_iload_n hx hb dX6_columnFor_128 rfl (lv_at hl 3 rfl) ?_
          refine lv_iload_n hx hb dX6_columnFor_129 rfl (lv_at hl 4 rfl) ?_
          refine rcVi (As := [.int (nI k), .int p1, .int p2]) (rest := []) ⟨hx, hb, hml, hown, hts⟩ (k6_isAt l D b cA u n m a k p1 p2 (by omega)) (cwV 3 hts gX6_columnFor_X6_isAt rfl rfl rfl (by decide +kernel) ⟨Nat.le_of_ble_eq_true rfl, Nat.le_of_ble_eq_true rfl⟩) (va_recv hK.1 hP (ci := 6) (q0 := 0) rfl rfl) hP hK rfl hl.1 rfl (Nat.le_of_ble_eq_true rfl) dX6_columnFor_130 ⟨Nat.zero_le _, Nat.zero_le _⟩ ?_
          refine x_ifeq (tgt := 162) hx hb dX6_columnFor_133 (by decide) (fun c_133 => ?_) (fun c_133 => ?_)
          · refine lv_iconst (v := 1) hx hb dX6_columnFor_162 (by decide) ?_
            refine lv_goto (tgt := 167) hx hb dX6_columnFor_163 (by decide) ?_
            refine x_tp (y := bv (∀ z, z < k + 1 → ¬ rTak (a 7) (a 9) (a 13) (a 16) p1 p2 x (nI (c0 + 1)) z)) (bv_t (lt_s c_122 (fun h => by obtain ⟨g1, g2, g3, g4⟩ := h; simp_all))).symm ?_
            exact j_167 _ (lv_sub hl [0, 1, 2, 3, 4, 5, 7] rfl)
          · refine lv_aload_n hx hb dX6_columnFor_136 rfl (lv_at hl 1 rfl) ?_
            refine va_get (D := D) (ci := 6) (v := .ref (b 16)) (C := RX6) (T := TX6) (N := 23) hx hb hts hiX60 hown hK.1 hP 0 rfl rfl 22 (by decide) f1 (fun _ h9 => h9) rfl dX6_columnFor_137 ?_
            refine lv_iload hx hb dX6_columnFor_140 (lv_at hl 7 rfl) ?_
            refine x_iald hx hb hK hP 16 0 rfl rfl (k := k) (by omega) (by decide) dX6_columnFor_142 ?_
            refine lv_iload hx hb dX6_columnFor_143 (lv_at hl 5 rfl) ?_
            refine lv_icmp_ne (tgt := 162) hx hb dX6_columnFor_145 (by decide) (fun c_145 => ?_) (fun c_145 => ?_)
            · refine lv_iconst (v := 1) hx hb dX6_columnFor_162 (by decide) ?_
              refine lv_goto (tgt := 167) hx hb dX6_columnFor_163 (by decide) ?_
              refine x_tp (y := bv (∀ z, z < k + 1 → ¬ rTak (a 7) (a 9) (a 13) (a 16) p1 p2 x (nI (c0 + 1)) z)) (bv_t (lt_s c_122 (fun h => by obtain ⟨g1, g2, g3, g4⟩ := h; simp_all))).symm ?_
              exact j_167 _ (lv_sub hl [0, 1, 2, 3, 4, 5, 7] rfl)
            · refine lv_iload hx hb dX6_columnFor_148 (lv_at hl 0 rfl) ?_
              refine lv_bipush (v := (-6)) hx hb dX6_columnFor_150 (by decide) ?_
              refine x_ile (tgt := 162) hx hb dX6_columnFor_152 (by decide) (fun c_152 => ?_) (fun c_152 => ?_)
              · refine lv_iconst (v := 1) hx hb dX6_columnFor_162 (by decide) ?_
                refine lv_goto (tgt := 167) hx hb dX6_columnFor_163 (by decide) ?_
                refine x_tp (y := bv (∀ z, z < k + 1 → ¬ rTak (a 7) (a 9) (a 13) (a 16) p1 p2 x (nI (c0 + 1)) z)) (bv_t (lt_s c_122 (fun h => by obtain ⟨g1, g2, g3, g4⟩ := h; simp_all))).symm ?_
                exact j_167 _ (lv_sub hl [0, 1, 2, 3, 4, 5, 7] rfl)
              · refine lv_iload hx hb dX6_columnFor_155 (lv_at hl 0 rfl) ?_
                refine lv_bipush (v := 6) hx hb dX6_columnFor_157 (by decide) ?_
                refine lv_icmp_lt (tgt := 166) hx hb dX6_columnFor_159 (by decide) (fun c_159 => ?_) (fun c_159 => ?_)
                · refine lv_iconst (v := 0) hx hb dX6_columnFor_166 (by decide) ?_
                  refine x_tp (y := bv (∀ z, z < k + 1 → ¬ rTak (a 7) (a 9) (a 13) (a 16) p1 p2 x (nI (c0 + 1)) z)) (bv_f (fun h => h k (Nat.lt_succ_self k) ⟨c_133, c_145, c_152, c_159⟩)).symm ?_
                  exact j_167 _ (lv_sub hl [0, 1, 2, 3, 4, 5, 7] rfl)
                · refine lv_iconst (v := 1) hx hb dX6_columnFor_162 (by decide) ?_
                  refine lv_goto (tgt := 167) hx hb dX6_columnFor_163 (by decide) ?_
                  refine x_tp (y := bv (∀ z, z < k + 1 → ¬ rTak (a 7) (a 9) (a 13) (a 16) p1 p2 x (nI (c0 + 1)) z)) (bv_t (lt_s c_122 (fun h => by obtain ⟨g1, g2, g3, g4⟩ := h; simp_all))).symm ?_
                  exact j_167 _ (lv_sub hl [0, 1, 2, 3, 4, 5, 7] rfl)
  · refine lv_aload_n hx hb dX6_columnFor_12 rfl (lv_at hl 0 rfl) ?_
    refine lv_iload hx hb dX6_columnFor_13 (lv_at hl 4 rfl) ?_
    refine lv_iload_n hx hb dX6_columnFor_15 rfl (lv_at hl 2 rfl) ?_
    refine lv_iload_n hx hb dX6_columnFor_16 rfl (lv_at hl 3 rfl) ?_
    refine rcVi (As := [.int (nI k), .int p1, .int p2]) (rest := []) ⟨hx, hb, hml, hown, hts⟩ (k6_isAt l D b cA u n m a k p1 p2 (by omega)) (cwV 3 hts gX6_columnFor_X6_isAt rfl rfl rfl (by decide +kernel) ⟨Nat.le_of_ble_eq_true rfl, Nat.le_of_ble_eq_true rfl⟩) (va_recv hK.1 hP (ci := 6) (q0 := 0) rfl rfl) hP hK rfl hl.1 rfl (Nat.le_of_ble_eq_true rfl) dX6_columnFor_17 ⟨Nat.zero_le _, Nat.zero_le _⟩ ?_
    refine x_ifeq (tgt := 71) hx hb dX6_columnFor_20 (by decide) (fun c_20 => ?_) (fun c_20 => ?_)
    · refine lv_iinc (v := nI (k + 1)) (lv' := [(4, .int (nI (k + 1))), (0, .ref (b 0)), (1, .int (nI x)), (2, .int p1), (3, .int p2)]) hx hb dX6_columnFor_71 hl (k := 4) rfl (x_inc k) (by decide) rfl (fun ls hl => ?_)
      refine lv_goto (tgt := 3) hx hb dX6_columnFor_74 (by decide) ?_
      exact ihk (by omega) () _ (lt_s hkI (fun h => by obtain ⟨g1, g2, g3, g4⟩ := h; simp_all)) (lv_sub hl [1, 2, 3, 4, 0] rfl)
    · refine lv_aload_n hx hb dX6_columnFor_23 rfl (lv_at hl 0 rfl) ?_
      refine va_get (D := D) (ci := 6) (v := .ref (b 16)) (C := RX6) (T := TX6) (N := 23) hx hb hts hiX60 hown hK.1 hP 0 rfl rfl 22 (by decide) f1 (fun _ h9 => h9) rfl dX6_columnFor_24 ?_
      refine lv_iload hx hb dX6_columnFor_27 (lv_at hl 4 rfl) ?_
      refine x_iald hx hb hK hP 16 0 rfl rfl (k := k) (by omega) (by decide) dX6_columnFor_29 ?_
      refine x_cle (tgt := 71) hx hb dX6_columnFor_30 (by decide) (fun c_30 => ?_) (fun c_30 => ?_)
      · refine lv_iinc (v := nI (k + 1)) (lv' := [(4, .int (nI (k + 1))), (0, .ref (b 0)), (1, .int (nI x)), (2, .int p1), (3, .int p2)]) hx hb dX6_columnFor_71 hl (k := 4) rfl (x_inc k) (by decide) rfl (fun ls hl => ?_)
        refine lv_goto (tgt := 3) hx hb dX6_columnFor_74 (by decide) ?_
        exact ihk (by omega) () _ (lt_s hkI (fun h => by obtain ⟨g1, g2, g3, g4⟩ := h; simp_all)) (lv_sub hl [1, 2, 3, 4, 0] rfl)
      · refine lv_aload_n hx hb dX6_columnFor_33 rfl (lv_at hl 0 rfl) ?_
        refine lv_iload hx hb dX6_columnFor_34 (lv_at hl 4 rfl) ?_
        refine rcVi (As := [.int (nI k)]) (rest := []) ⟨hx, hb, hml, hown, hts⟩ (k6_step l D b cA u n m a k (by omega)) (cwV 1 hts gX6_columnFor_X6_step rfl rfl rfl (by decide +kernel) ⟨Nat.le_of_ble_eq_true rfl, Nat.le_of_ble_eq_true rfl⟩) (va_recv hK.1 hP (ci := 6) (q0 := 0) rfl rfl) hP hK rfl hl.1 rfl (Nat.le_of_ble_eq_true rfl) dX6_columnFor_36 ⟨Nat.zero_le _, Nat.zero_le _⟩ ?_
        refine lv_aload_n hx hb dX6_columnFor_39 rfl (lv_at hl 0 rfl) ?_
        refine lv_iload_n hx hb dX6_columnFor_40 rfl (lv_at hl 1 rfl) ?_
        refine rcVi (As := [.int (nI x)]) (rest := [.int (a 13 k)]) ⟨hx, hb, hml, hown, hts⟩ (k6_step l D b cA u n m a x (by omega)) (cwV 1 hts gX6_columnFor_X6_step rfl rfl rfl (by decide +kernel) ⟨Nat.le_of_ble_eq_true rfl, Nat.le_of_ble_eq_true rfl⟩) (va_recv hK.1 hP (ci := 6) (q0 := 0) rfl rfl) hP hK rfl hl.1 rfl (Nat.le_of_ble_eq_true rfl) dX6_columnFor_41 ⟨Nat.zero_le _, Nat.zero_le _⟩ ?_
        refine lv_icmp_ne (tgt := 71) hx hb dX6_columnFor_44 (by decide) (fun c_44 => ?_) (fun c_44 => ?_)
        · refine lv_iinc (v := nI (k + 1)) (lv' := [(4, .int (nI (k + 1))), (0, .ref (b 0)), (1, .int (nI x)), (2, .int p1), (3, .int p2)]) hx hb dX6_columnFor_71 hl (k := 4) rfl (x_inc k) (by decide) rfl (fun ls hl => ?_)
          refine lv_goto (tgt := 3) hx hb dX6_columnFor_74 (by decide) ?_
          exact ihk (by omega) () _ (lt_s hkI (fun h => by obtain ⟨g1, g2, g3, g4⟩ := h; simp_all)) (lv_sub hl [1, 2, 3, 4, 0] rfl)
        · refine lv_aload_n hx hb dX6_columnFor_47 rfl (lv_at hl 0 rfl) ?_
          refine va_get (D := D) (ci := 6) (v := .ref (b 11)) (C := RX6) (T := TX6) (N := 23) hx hb hts hiX60 hown hK.1 hP 0 rfl rfl 14 (by decide) f2 (fun _ h9 => h9) rfl dX6_columnFor_48 ?_
          refine lv_iload hx hb dX6_columnFor_51 (lv_at hl 4 rfl) ?_
          refine x_iald hx hb hK hP 11 0 rfl rfl (k := k) (by omega) (by decide) dX6_columnFor_53 ?_
          refine lv_aload_n hx hb dX6_columnFor_54 rfl (lv_at hl 0 rfl) ?_
          refine va_get (D := D) (ci := 6) (v := .ref (b 11)) (C := RX6) (T := TX6) (N := 23) hx hb hts hiX60 hown hK.1 hP 0 rfl rfl 14 (by decide) f2 (fun _ h9 => h9) rfl dX6_columnFor_55 ?_
          refine lv_iload_n hx hb dX6_columnFor_58 rfl (lv_at hl 1 rfl) ?_
          refine x_iald hx hb hK hP 11 0 rfl rfl (k := x) (by omega) (by decide) dX6_columnFor_59 ?_
          refine lv_icmp_ne (tgt := 71) hx hb dX6_columnFor_60 (by decide) (fun c_60 => ?_) (fun c_60 => ?_)
          · refine lv_iinc (v := nI (k + 1)) (lv' := [(4, .int (nI (k + 1))), (0, .ref (b 0)), (1, .int (nI x)), (2, .int p1), (3, .int p2)]) hx hb dX6_columnFor_71 hl (k := 4) rfl (x_inc k) (by decide) rfl (fun ls hl => ?_)
            refine lv_goto (tgt := 3) hx hb dX6_columnFor_74 (by decide) ?_
            exact ihk (by omega) () _ (lt_s hkI (fun h => by obtain ⟨g1, g2, g3, g4⟩ := h; simp_all)) (lv_sub hl [1, 2, 3, 4, 0] rfl)
          · refine lv_aload_n hx hb dX6_columnFor_63 rfl (lv_at hl 0 rfl) ?_
            refine va_get (D := D) (ci := 6) (v := .ref (b 16)) (C := RX6) (T := TX6) (N := 23) hx hb hts hiX60 hown hK.1 hP 0 rfl rfl 22 (by decide) f1 (fun _ h9 => h9) rfl dX6_columnFor_64 ?_
            refine lv_iload hx hb dX6_columnFor_67 (lv_at hl 4 rfl) ?_
            refine x_iald hx hb hK hP 16 0 rfl rfl (k := k) (by omega) (by decide) dX6_columnFor_69 ?_
            exact r_iret hx hb hr hlk (by
              rcases hr0 with ⟨k0, g1, g2, g3, g4⟩ | ⟨g1, g2⟩
              · have hkk : k = k0 := by
                  rcases Nat.lt_trichotomy k k0 with q | q | q
                  · exact absurd ⟨c_20, c_30, c_44, c_60⟩ (g3 k q)
                  · exact q
                  · exact absurd g2 (hkI k0 q)
                rw [g4, hkk]
              · exact absurd ⟨c_20, c_30, c_44, c_60⟩ (g1 k c_9)) dX6_columnFor_70

set_option maxHeartbeats 4000000 in
set_option maxRecDepth 100000 in
theorem k6_reckon (l : Launch) (D : va_G) (b : Nat → Nat) (cA : ClassId) (u : Nat → Int32) (n m : Nat) (a : Nat → Nat → Int32) (sz : Nat) (hn : n ≤ 60) (hm : m ≤ 12) (hs4 : ∀ k, k < n → a 7 k = nI ((a 7 k).toNatClampNeg) ∧ (a 7 k).toNatClampNeg < 4) : Met l yX6_reckon wsX6_reckon ({ frames := 2, cells := 0, slots := 0, locals := 47 }) (wPc D (mW b cA u n m a) [(cA, .int)] sz [.ref (b 0)]) (va_Qv (fun _ : Unit => True) (wB D (mW b cA u n m a) sz (fun _ => mW b cA u n m (va_up a 13 (rRk (a 1) (a 2) (a 3) (a 4) (a 5) (a 6) m (a 7) (a 9) (a 10) (a 13) n)))) (va_A (mW b cA u n m a) sz)) 0 0 (va_A (mW b cA u n m a) sz) := by
  refine w_head (C := RX6) (cc := cX6_reckon) (maxL := 2) (ret := none) [(0, .ref (b 0))] (by decide) rfl rfl (Nat.le_of_ble_eq_true rfl) rfl ?_
  intro p e s mi below meth c hx hb hr hlk hml hown hin hts hP hD hS hA hK ls hl
  have hiX60 : ∀ w ∈ wsX60, w ∈ wsX6_reckon := fun w h => List.mem_cons_of_mem _ (List.mem_append_right _ h)
  have f0 := hts (.fieldLink RX6 76 "StaffHeadsModel" "notes" "I") (List.mem_of_getElem? (i := 1) rfl)
  have f1 := hts (.fieldLink RX6 53 "StaffHeadsModel" "stepOf" "[I") (List.mem_of_getElem? (i := 2) rfl)
  refine lv_iconst (v := 0) hx hb dX6_reckon_0 (by decide) ?_
  refine x_tp (y := nI 0) nI_0.symm ?_
  refine lv_istore_n (lv' := [(1, .int (nI 0)), (0, .ref (b 0))]) hx hb dX6_reckon_1 rfl hl (by decide) rfl (fun ls hl => ?_)
  refine lpW (G := fun ls H locs => W p l e _ s mi _ below meth c H locs _ _ _ (F0 mi 2 ls [])) 2 n (fun k (_ : Unit) => [(0, .ref (b 0)), (1, .int (nI k))]) (fun k (_ : Unit) => mW b cA u n m (va_up a 13 (rRk (a 1) (a 2) (a 3) (a 4) (a 5) (a 6) m (a 7) (a 9) (a 10) (a 13) k))) (fun _ _ => True) ?_ 0 () (Nat.zero_le _) trivial (lv_sub hl [1, 0] rfl) hP hD hS
  clear hl hP hD hS
  intro k gu hk hkI ls H locs hl hP hD hS ihk
  refine lv_iload_n hx hb dX6_reckon_2 rfl (lv_at hl 1 rfl) ?_
  refine lv_aload_n hx hb dX6_reckon_3 rfl (lv_at hl 0 rfl) ?_
  refine va_get (D := D) (ci := 6) (v := .int (nI n)) (C := RX6) (T := TX6) (N := 23) hx hb hts hiX60 hown hK.1 hP 0 rfl rfl 9 (by decide) f0 (fun _ h9 => h9) rfl dX6_reckon_4 ?_
  refine x_nge (tgt := 27) hx hb dX6_reckon_7 (by decide) (by omega) (by omega) (fun c_7 => ?_) (fun c_7 => ?_)
  · obtain rfl : n = k := by omega
    exact w_vret () hx hb hr hlk hP hD hS (trivial) dX6_reckon_27
  · refine lv_aload_n hx hb dX6_reckon_10 rfl (lv_at hl 0 rfl) ?_
    refine va_get (D := D) (ci := 6) (v := .ref (b 13)) (C := RX6) (T := TX6) (N := 23) hx hb hts hiX60 hown hK.1 hP 0 rfl rfl 19 (by decide) f1 (fun _ h9 => h9) rfl dX6_reckon_11 ?_
    refine lv_iload_n hx hb dX6_reckon_14 rfl (lv_at hl 1 rfl) ?_
    refine lv_aload_n hx hb dX6_reckon_15 rfl (lv_at hl 0 rfl) ?_
    refine lv_iload_n hx hb dX6_reckon_16 rfl (lv_at hl 1 rfl) ?_
    refine rcVi (As := [.int (nI k)]) (rest := [.int (nI k), .ref (b 13)]) ⟨hx, hb, hml, hown, hts⟩ (k6_reckonStep l D b cA u n m (va_up a 13 (rRk (a 1) (a 2) (a 3) (a 4) (a 5) (a 6) m (a 7) (a 9) (a 10) (a 13) k)) k ((a 7 k).toNatClampNeg) (by omega) (hs4 k (by omega)).1 (hs4 k (by omega)).2 (by omega)) (cwV 1 hts gX6_reckon_X6_reckonStep rfl rfl rfl (by decide +kernel) ⟨Nat.le_of_ble_eq_true rfl, Nat.le_of_ble_eq_true rfl⟩) (va_recv hK.1 hP (ci := 6) (q0 := 0) rfl rfl) hP hK rfl hl.1 rfl (Nat.le_of_ble_eq_true rfl) dX6_reckon_17 ⟨Nat.zero_le _, Nat.zero_le _⟩ ?_
    refine x_iast hx hb hK hP hD hS 13 0 rfl rfl (k := k) (by omega) (by decide) dX6_reckon_20 (fun H locs hP hD hS => ?_)
    have hP : va_P D vwCl (mW b cA u n m (va_up (va_up a 13 (rRk (a 1) (a 2) (a 3) (a 4) (a 5) (a 6) m (a 7) (a 9) (a 10) (a 13) k)) 13 (upd (rRk (a 1) (a 2) (a 3) (a 4) (a 5) (a 6) m (a 7) (a 9) (a 10) (a 13) k) k (rSpK (a 1) (a 2) (a 3) (a 4) (a 5) (a 6) m (a 7) (a 9) (a 10) k)))) H := hP
    have hD : va_D (va_A (mW b cA u n m a) sz) (mW b cA u n m (va_up (va_up a 13 (rRk (a 1) (a 2) (a 3) (a 4) (a 5) (a 6) m (a 7) (a 9) (a 10) (a 13) k)) 13 (upd (rRk (a 1) (a 2) (a 3) (a 4) (a 5) (a 6) m (a 7) (a 9) (a 10) (a 13) k) k (rSpK (a 1) (a 2) (a 3) (a 4) (a 5) (a 6) m (a 7) (a 9) (a 10) k)))) := hD
    have hP : va_P D vwCl (mW b cA u n m (va_up a 13 (rRk (a 1) (a 2) (a 3) (a 4) (a 5) (a 6) m (a 7) (a 9) (a 10) (a 13) (k + 1)))) H := hP
    have hD : va_D (va_A (mW b cA u n m a) sz) (mW b cA u n m (va_up a 13 (rRk (a 1) (a 2) (a 3) (a 4) (a 5) (a 6) m (a 7) (a 9) (a 10) (a 13) (k + 1)))) := hD
    refine lv_iinc (v := nI (k + 1)) (lv' := [(1, .int (nI (k + 1))), (0, .ref (b 0))]) hx hb dX6_reckon_21 hl (k := 1) rfl (x_inc k) (by decide) rfl (fun ls hl => ?_)
    refine lv_goto (tgt := 2) hx hb dX6_reckon_24 (by decide) ?_
    exact ihk (by omega) () _ _ _ trivial (lv_sub hl [1, 0] rfl) hP hD hS

set_option maxHeartbeats 4000000 in
set_option maxRecDepth 100000 in
theorem k6_placeSigns (l : Launch) (D : va_G) (b : Nat → Nat) (cA : ClassId) (u : Nat → Int32) (n m : Nat) (a : Nat → Nat → Int32) (sz : Nat) (p1 p2 : Int32) (g : Nat → Nat) (r : Nat → Int32) (hn : n ≤ 60) (hsg : rSigns (a 7) (a 9) (a 13) (a 11) (rZero (a 16) n) n p1 p2 g r) : Met l yX6_placeSigns wsX6_placeSigns ({ frames := 2, cells := 0, slots := 0, locals := 50 }) (wPc D (mW b cA u n m a) [(cA, .int)] sz [.ref (b 0), .int p1, .int p2]) (va_Qv (fun _ : Unit => True) (wB D (mW b cA u n m a) sz (fun _ => mW b cA u n m (va_up a 16 (rSgn (rZero (a 16) n) g r (rLeft (a 7) (a 9) (a 11) p1 p2 n))))) (va_A (mW b cA u n m a) sz)) 0 0 (va_A (mW b cA u n m a) sz) := by
  refine w_head (C := RX6) (cc := cX6_placeSigns) (maxL := 8) (ret := none) [(0, .ref (b 0)), (1, .int p1), (2, .int p2)] (by decide) rfl rfl (Nat.le_of_ble_eq_true rfl) rfl ?_
  intro p e s mi below meth c hx hb hr hlk hml hown hin hts hP hD hS hA hK ls hl
  have hiX60 : ∀ w ∈ wsX60, w ∈ wsX6_placeSigns := fun w h => List.mem_cons_of_mem _ (List.mem_append_right _ h)
  have f0 := hts (.fieldLink RX6 76 "StaffHeadsModel" "notes" "I") (List.mem_of_getElem? (i := 1) rfl)
  have f1 := hts (.fieldLink RX6 62 "StaffHeadsModel" "signColumn" "[I") (List.mem_of_getElem? (i := 2) rfl)
  have f2 := hts (.fieldLink RX6 40 "StaffHeadsModel" "signOf" "[I") (List.mem_of_getElem? (i := 3) rfl)
  refine lv_iconst (v := 0) hx hb dX6_placeSigns_0 (by decide) ?_
  refine x_tp (y := nI (rLeft (a 7) (a 9) (a 11) p1 p2 0)) (show (0 : Int32) = nI 0 from rfl) ?_
  refine lv_istore_n (lv' := [(3, .int (nI (rLeft (a 7) (a 9) (a 11) p1 p2 0))), (0, .ref (b 0)), (1, .int p1), (2, .int p2)]) hx hb dX6_placeSigns_1 rfl hl (by decide) rfl (fun ls hl => ?_)
  refine lv_iconst (v := 0) hx hb dX6_placeSigns_2 (by decide) ?_
  refine x_tp (y := nI 0) nI_0.symm ?_
  refine lv_istore (lv' := [(4, .int (nI 0)), (3, .int (nI (rLeft (a 7) (a 9) (a 11) p1 p2 0))), (0, .ref (b 0)), (1, .int p1), (2, .int p2)]) hx hb dX6_placeSigns_3 hl (by decide) rfl (fun ls hl => ?_)
  refine lpW (G := fun ls H locs => W p l e _ s mi _ below meth c H locs _ _ _ (F0 mi 5 ls [])) 8 n (fun k (_ : Unit) => [(0, .ref (b 0)), (1, .int p1), (2, .int p2), (3, .int (nI (rLeft (a 7) (a 9) (a 11) p1 p2 k))), (4, .int (nI k))]) (fun k (_ : Unit) => mW b cA u n m (va_up a 16 (rZero (a 16) k))) (fun _ _ => True) ?_ 0 () (Nat.zero_le _) trivial (lv_sub hl [2, 3, 4, 1, 0] rfl) hP hD hS
  clear hl hP hD hS
  intro k gu hk hkI ls H locs hl hP hD hS ihk
  refine lv_iload hx hb dX6_placeSigns_5 (lv_at hl 4 rfl) ?_
  refine lv_aload_n hx hb dX6_placeSigns_7 rfl (lv_at hl 0 rfl) ?_
  refine va_get (D := D) (ci := 6) (v := .int (nI n)) (C := RX6) (T := TX6) (N := 23) hx hb hts hiX60 hown hK.1 hP 0 rfl rfl 9 (by decide) f0 (fun _ h9 => h9) rfl dX6_placeSigns_8 ?_
  refine x_nge (tgt := 58) hx hb dX6_placeSigns_11 (by decide) (by omega) (by omega) (fun c_11 => ?_) (fun c_11 => ?_)
  · obtain rfl : n = k := by omega
    have hLn := rLeft_le (a 7) (a 9) (a 11) p1 p2 n
    refine lv_iconst (v := 0) hx hb dX6_placeSigns_58 (by decide) ?_
    refine x_tp (y := nI 0) nI_0.symm ?_
    refine lv_istore (lv' := [(4, .int (nI 0)), (0, .ref (b 0)), (1, .int p1), (2, .int p2), (3, .int (nI (rLeft (a 7) (a 9) (a 11) p1 p2 n)))]) hx hb dX6_placeSigns_59 hl (by decide) rfl (fun ls hl => ?_)
    refine lpW (G := fun ls H locs => W p l e _ s mi _ below meth c H locs _ _ _ (F0 mi 61 ls [])) 8 (rLeft (a 7) (a 9) (a 11) p1 p2 n) (fun i (_ : Unit) => [(0, .ref (b 0)), (1, .int p1), (2, .int p2), (3, .int (nI (rLeft (a 7) (a 9) (a 11) p1 p2 n))), (4, .int (nI i))]) (fun i (_ : Unit) => mW b cA u n m (va_up a 16 (rSgn (rZero (a 16) n) g r i))) (fun _ _ => True) ?_ 0 () (Nat.zero_le _) trivial (lv_sub hl [1, 2, 3, 4, 0] rfl) hP hD hS
    clear hl hP hD hS
    intro i gu hi hiI ls H locs hl hP hD hS ihi
    refine lv_iload hx hb dX6_placeSigns_61 (lv_at hl 4 rfl) ?_
    refine lv_iload_n hx hb dX6_placeSigns_63 rfl (lv_at hl 3 rfl) ?_
    refine x_nge (tgt := 212) hx hb dX6_placeSigns_64 (by decide) (by omega) (by omega) (fun c_64 => ?_) (fun c_64 => ?_)
    · obtain rfl : rLeft (a 7) (a 9) (a 11) p1 p2 n = i := by omega
      exact w_vret () hx hb hr hlk hP hD hS (trivial) dX6_placeSigns_212
    · obtain ⟨hpk, hcf⟩ := hsg i c_64
      have hgl := (rPick_lt hpk).1
      refine lv_sipush (v := (-1000)) hx hb dX6_placeSigns_67 (by decide) ?_
      refine x_tp (y := enc (rPick (a 7) (a 9) (a 13) (a 11) (rSgn (rZero (a 16) n) g r i) p1 p2 (i % 2 = 0) 0)) rfl ?_
      refine lv_istore (lv' := [(5, .int (enc (rPick (a 7) (a 9) (a 13) (a 11) (rSgn (rZero (a 16) n) g r i) p1 p2 (i % 2 = 0) 0))), (0, .ref (b 0)), (1, .int p1), (2, .int p2), (3, .int (nI (rLeft (a 7) (a 9) (a 11) p1 p2 n))), (4, .int (nI i))]) hx hb dX6_placeSigns_70 hl (by decide) rfl (fun ls hl => ?_)
      refine lv_iconst (v := 0) hx hb dX6_placeSigns_72 (by decide) ?_
      refine x_tp (y := nI 0) nI_0.symm ?_
      refine lv_istore (lv' := [(6, .int (nI 0)), (5, .int (enc (rPick (a 7) (a 9) (a 13) (a 11) (rSgn (rZero (a 16) n) g r i) p1 p2 (i % 2 = 0) 0))), (0, .ref (b 0)), (1, .int p1), (2, .int p2), (3, .int (nI (rLeft (a 7) (a 9) (a 11) p1 p2 n))), (4, .int (nI i))]) hx hb dX6_placeSigns_73 hl (by decide) rfl (fun ls hl => ?_)
      refine lpR (G := fun ls => W p l e _ s mi _ below meth c _ _ _ _ _ (F0 mi 75 ls [])) 8 n (fun k (_ : Unit) => [(0, .ref (b 0)), (1, .int p1), (2, .int p2), (3, .int (nI (rLeft (a 7) (a 9) (a 11) p1 p2 n))), (4, .int (nI i)), (5, .int (enc (rPick (a 7) (a 9) (a 13) (a 11) (rSgn (rZero (a 16) n) g r i) p1 p2 (i % 2 = 0) k))), (6, .int (nI k))]) (fun _ _ => True) ?_ 0 () (Nat.zero_le _) trivial (lv_sub hl [2, 3, 4, 5, 6, 1, 0] rfl)
      clear hl ls
      intro k gu hk hkI ls hl ihk
      refine lv_iload hx hb dX6_placeSigns_75 (lv_at hl 6 rfl) ?_
      refine lv_aload_n hx hb dX6_placeSigns_77 rfl (lv_at hl 0 rfl) ?_
      refine va_get (D := D) (ci := 6) (v := .int (nI n)) (C := RX6) (T := TX6) (N := 23) hx hb hts hiX60 hown hK.1 hP 0 rfl rfl 9 (by decide) f0 (fun _ h9 => h9) rfl dX6_placeSigns_78 ?_
      refine x_nge (tgt := 191) hx hb dX6_placeSigns_81 (by decide) (by omega) (by omega) (fun c_81 => ?_) (fun c_81 => ?_)
      · obtain rfl : n = k := by omega
        have hl := lv_cast (l' := [(0, .ref (b 0)), (1, .int p1), (2, .int p2), (3, .int (nI (rLeft (a 7) (a 9) (a 11) p1 p2 n))), (4, .int (nI i)), (5, .int (nI (g i))), (6, .int (nI n))]) hl (by rw [show enc (rPick (a 7) (a 9) (a 13) (a 11) (rSgn (rZero (a 16) n) g r i) p1 p2 (i % 2 = 0) n) = nI (g i) from (by rw [hpk]; rfl)])
        refine lv_aload_n hx hb dX6_placeSigns_191 rfl (lv_at hl 0 rfl) ?_
        refine va_get (D := D) (ci := 6) (v := .ref (b 16)) (C := RX6) (T := TX6) (N := 23) hx hb hts hiX60 hown hK.1 hP 0 rfl rfl 22 (by decide) f1 (fun _ h9 => h9) rfl dX6_placeSigns_192 ?_
        refine lv_iload hx hb dX6_placeSigns_195 (lv_at hl 5 rfl) ?_
        refine lv_aload_n hx hb dX6_placeSigns_197 rfl (lv_at hl 0 rfl) ?_
        refine lv_iload hx hb dX6_placeSigns_198 (lv_at hl 5 rfl) ?_
        refine lv_iload_n hx hb dX6_placeSigns_200 rfl (lv_at hl 1 rfl) ?_
        refine lv_iload_n hx hb dX6_placeSigns_201 rfl (lv_at hl 2 rfl) ?_
        refine rcVi (As := [.int (nI (g i)), .int p1, .int p2]) (rest := [.int (nI (g i)), .ref (b 16)]) ⟨hx, hb, hml, hown, hts⟩ (k6_columnFor l D b cA u n m (va_up a 16 (rSgn (rZero (a 16) n) g r i)) (g i) p1 p2 (r i) (by omega) (by omega) hcf) (cwV 3 hts gX6_placeSigns_X6_columnFor rfl rfl rfl (by decide +kernel) ⟨Nat.le_of_ble_eq_true rfl, Nat.le_of_ble_eq_true rfl⟩) (va_recv hK.1 hP (ci := 6) (q0 := 0) rfl rfl) hP hK rfl hl.1 rfl (Nat.le_of_ble_eq_true rfl) dX6_placeSigns_202 ⟨Nat.zero_le _, Nat.zero_le _⟩ ?_
        refine x_iast hx hb hK hP hD hS 16 0 rfl rfl (k := (g i)) (by omega) (by decide) dX6_placeSigns_205 (fun H locs hP hD hS => ?_)
        have hP : va_P D vwCl (mW b cA u n m (va_up (va_up a 16 (rSgn (rZero (a 16) n) g r i)) 16 (upd (rSgn (rZero (a 16) n) g r i) (g i) (r i)))) H := hP
        have hD : va_D (va_A (mW b cA u n m a) sz) (mW b cA u n m (va_up (va_up a 16 (rSgn (rZero (a 16) n) g r i)) 16 (upd (rSgn (rZero (a 16) n) g r i) (g i) (r i)))) := hD
        have hP : va_P D vwCl (mW b cA u n m (va_up a 16 (rSgn (rZero (a 16) n) g r (i + 1)))) H := hP
        have hD : va_D (va_A (mW b cA u n m a) sz) (mW b cA u n m (va_up a 16 (rSgn (rZero (a 16) n) g r (i + 1)))) := hD
        refine lv_iinc (v := nI (i + 1)) (lv' := [(4, .int (nI (i + 1))), (0, .ref (b 0)), (1, .int p1), (2, .int p2), (3, .int (nI (rLeft (a 7) (a 9) (a 11) p1 p2 n))), (5, .int (nI (g i))), (6, .int (nI n))]) hx hb dX6_placeSigns_206 hl (k := 4) rfl (x_inc i) (by decide) rfl (fun ls hl => ?_)
        refine lv_goto (tgt := 61) hx hb dX6_placeSigns_209 (by decide) ?_
        exact ihi (by omega) () _ _ _ trivial (lv_sub hl [1, 2, 3, 4, 0] rfl) hP hD hS
      · cases ho : rPick (a 7) (a 9) (a 13) (a 11) (rSgn (rZero (a 16) n) g r i) p1 p2 (i % 2 = 0) k with
        | none =>
          have hl := lv_cast (l' := [(0, .ref (b 0)), (1, .int p1), (2, .int p2), (3, .int (nI (rLeft (a 7) (a 9) (a 11) p1 p2 n))), (4, .int (nI i)), (5, .int (-1000)), (6, .int (nI k))]) hl (by rw [show enc (rPick (a 7) (a 9) (a 13) (a 11) (rSgn (rZero (a 16) n) g r i) p1 p2 (i % 2 = 0) k) = (-1000) from (by rw [ho]; rfl)])
          refine lv_aload_n hx hb dX6_placeSigns_84 rfl (lv_at hl 0 rfl) ?_
          refine lv_iload hx hb dX6_placeSigns_85 (lv_at hl 6 rfl) ?_
          refine lv_iload_n hx hb dX6_placeSigns_87 rfl (lv_at hl 1 rfl) ?_
          refine lv_iload_n hx hb dX6_placeSigns_88 rfl (lv_at hl 2 rfl) ?_
          refine rcVi (As := [.int (nI k), .int p1, .int p2]) (rest := []) ⟨hx, hb, hml, hown, hts⟩ (k6_isAt l D b cA u n m (va_up a 16 (rSgn (rZero (a 16) n) g r i)) k p1 p2 (by omega)) (cwV 3 hts gX6_placeSigns_X6_isAt rfl rfl rfl (by decide +kernel) ⟨Nat.le_of_ble_eq_true rfl, Nat.le_of_ble_eq_true rfl⟩) (va_recv hK.1 hP (ci := 6) (q0 := 0) rfl rfl) hP hK rfl hl.1 rfl (Nat.le_of_ble_eq_true rfl) dX6_placeSigns_89 ⟨Nat.zero_le _, Nat.zero_le _⟩ ?_
          refine x_ifeq (tgt := 185) hx hb dX6_placeSigns_92 (by decide) (fun c_92 => ?_) (fun c_92 => ?_)
          · have hl := lv_cast (l' := [(0, .ref (b 0)), (1, .int p1), (2, .int p2), (3, .int (nI (rLeft (a 7) (a 9) (a 11) p1 p2 n))), (4, .int (nI i)), (5, .int (enc (rPick (a 7) (a 9) (a 13) (a 11) (rSgn (rZero (a 16) n) g r i) p1 p2 (i % 2 = 0) (k + 1)))), (6, .int (nI k))]) hl (by rw [show (-1000) = enc (rPick (a 7) (a 9) (a 13) (a 11) (rSgn (rZero (a 16) n) g r i) p1 p2 (i % 2 = 0) (k + 1)) from (by rw [rPick, ho, if_neg (fun h => c_92 h.1.1)]; rfl)])
            refine lv_iinc (v := nI (k + 1)) (lv' := [(6, .int (nI (k + 1))), (0, .ref (b 0)), (1, .int p1), (2, .int p2), (3, .int (nI (rLeft (a 7) (a 9) (a 11) p1 p2 n))), (4, .int (nI i)), (5, .int (enc (rPick (a 7) (a 9) (a 13) (a 11) (rSgn (rZero (a 16) n) g r i) p1 p2 (i % 2 = 0) (k + 1))))]) hx hb dX6_placeSigns_185 hl (k := 6) rfl (x_inc k) (by decide) rfl (fun ls hl => ?_)
            refine lv_goto (tgt := 75) hx hb dX6_placeSigns_188 (by decide) ?_
            exact ihk (by omega) () _ trivial (lv_sub hl [1, 2, 3, 4, 5, 6, 0] rfl)
          · refine lv_aload_n hx hb dX6_placeSigns_95 rfl (lv_at hl 0 rfl) ?_
            refine va_get (D := D) (ci := 6) (v := .ref (b 11)) (C := RX6) (T := TX6) (N := 23) hx hb hts hiX60 hown hK.1 hP 0 rfl rfl 14 (by decide) f2 (fun _ h9 => h9) rfl dX6_placeSigns_96 ?_
            refine lv_iload hx hb dX6_placeSigns_99 (lv_at hl 6 rfl) ?_
            refine x_iald hx hb hK hP 11 0 rfl rfl (k := k) (by omega) (by decide) dX6_placeSigns_101 ?_
            refine lv_iconst (v := 3) hx hb dX6_placeSigns_102 (by decide) ?_
            refine lv_icmp_eq (tgt := 185) hx hb dX6_placeSigns_103 (by decide) (fun c_103 => ?_) (fun c_103 => ?_)
            · have hl := lv_cast (l' := [(0, .ref (b 0)), (1, .int p1), (2, .int p2), (3, .int (nI (rLeft (a 7) (a 9) (a 11) p1 p2 n))), (4, .int (nI i)), (5, .int (enc (rPick (a 7) (a 9) (a 13) (a 11) (rSgn (rZero (a 16) n) g r i) p1 p2 (i % 2 = 0) (k + 1)))), (6, .int (nI k))]) hl (by rw [show (-1000) = enc (rPick (a 7) (a 9) (a 13) (a 11) (rSgn (rZero (a 16) n) g r i) p1 p2 (i % 2 = 0) (k + 1)) from (by rw [rPick, ho, if_neg (fun h => h.1.2.1 c_103)]; rfl)])
              refine lv_iinc (v := nI (k + 1)) (lv' := [(6, .int (nI (k + 1))), (0, .ref (b 0)), (1, .int p1), (2, .int p2), (3, .int (nI (rLeft (a 7) (a 9) (a 11) p1 p2 n))), (4, .int (nI i)), (5, .int (enc (rPick (a 7) (a 9) (a 13) (a 11) (rSgn (rZero (a 16) n) g r i) p1 p2 (i % 2 = 0) (k + 1))))]) hx hb dX6_placeSigns_185 hl (k := 6) rfl (x_inc k) (by decide) rfl (fun ls hl => ?_)
              refine lv_goto (tgt := 75) hx hb dX6_placeSigns_188 (by decide) ?_
              exact ihk (by omega) () _ trivial (lv_sub hl [1, 2, 3, 4, 5, 6, 0] rfl)
            · refine lv_aload_n hx hb dX6_placeSigns_106 rfl (lv_at hl 0 rfl) ?_
              refine va_get (D := D) (ci := 6) (v := .ref (b 16)) (C := RX6) (T := TX6) (N := 23) hx hb hts hiX60 hown hK.1 hP 0 rfl rfl 22 (by decide) f1 (fun _ h9 => h9) rfl dX6_placeSigns_107 ?_
              refine lv_iload hx hb dX6_placeSigns_110 (lv_at hl 6 rfl) ?_
              refine x_iald hx hb hK hP 16 0 rfl rfl (k := k) (by omega) (by decide) dX6_placeSigns_112 ?_
              refine lv_if_ne (tgt := 185) hx hb dX6_placeSigns_113 (by decide) (fun c_113 => ?_) (fun c_113 => ?_)
              · have hl := lv_cast (l' := [(0, .ref (b 0)), (1, .int p1), (2, .int p2), (3, .int (nI (rLeft (a 7) (a 9) (a 11) p1 p2 n))), (4, .int (nI i)), (5, .int (enc (rPick (a 7) (a 9) (a 13) (a 11) (rSgn (rZero (a 16) n) g r i) p1 p2 (i % 2 = 0) (k + 1)))), (6, .int (nI k))]) hl (by rw [show (-1000) = enc (rPick (a 7) (a 9) (a 13) (a 11) (rSgn (rZero (a 16) n) g r i) p1 p2 (i % 2 = 0) (k + 1)) from (by rw [rPick, ho, if_neg (fun h => c_113 h.1.2.2)]; rfl)])
                refine lv_iinc (v := nI (k + 1)) (lv' := [(6, .int (nI (k + 1))), (0, .ref (b 0)), (1, .int p1), (2, .int p2), (3, .int (nI (rLeft (a 7) (a 9) (a 11) p1 p2 n))), (4, .int (nI i)), (5, .int (enc (rPick (a 7) (a 9) (a 13) (a 11) (rSgn (rZero (a 16) n) g r i) p1 p2 (i % 2 = 0) (k + 1))))]) hx hb dX6_placeSigns_185 hl (k := 6) rfl (x_inc k) (by decide) rfl (fun ls hl => ?_)
                refine lv_goto (tgt := 75) hx hb dX6_placeSigns_188 (by decide) ?_
                exact ihk (by omega) () _ trivial (lv_sub hl [1, 2, 3, 4, 5, 6, 0] rfl)
              · refine x_join 8 [(0, .ref (b 0)), (1, .int p1), (2, .int p2), (3, .int (nI (rLeft (a 7) (a 9) (a 11) p1 p2 n))), (4, .int (nI i)), (5, .int (-1000)), (6, .int (nI k))] 169 [.int (bv (rBet (a 13) (i % 2 = 0) k none = true))] ?_ (fun j_169 => ?_)
                · intro ls hl
                  refine lv_istore (lv' := [(7, .int (bv (rBet (a 13) (i % 2 = 0) k none = true))), (0, .ref (b 0)), (1, .int p1), (2, .int p2), (3, .int (nI (rLeft (a 7) (a 9) (a 11) p1 p2 n))), (4, .int (nI i)), (5, .int (-1000)), (6, .int (nI k))]) hx hb dX6_placeSigns_169 hl (by decide) rfl (fun ls hl => ?_)
                  refine lv_iload hx hb dX6_placeSigns_171 (lv_at hl 0 rfl) ?_
                  refine x_ifeq (tgt := 181) hx hb dX6_placeSigns_173 (by decide) (fun c_173 => ?_) (fun c_173 => ?_)
                  · refine lv_iload hx hb dX6_placeSigns_181 (lv_at hl 6 rfl) ?_
                    refine x_tp (y := enc (rPick (a 7) (a 9) (a 13) (a 11) (rSgn (rZero (a 16) n) g r i) p1 p2 (i % 2 = 0) (k + 1))) (by rw [rPick, ho, if_neg (fun h => c_173 h.2)]; rfl) ?_
                    refine lv_istore (lv' := [(5, .int (enc (rPick (a 7) (a 9) (a 13) (a 11) (rSgn (rZero (a 16) n) g r i) p1 p2 (i % 2 = 0) (k + 1)))), (7, .int (bv (rBet (a 13) (i % 2 = 0) k none = true))), (0, .ref (b 0)), (1, .int p1), (2, .int p2), (3, .int (nI (rLeft (a 7) (a 9) (a 11) p1 p2 n))), (4, .int (nI i)), (6, .int (nI k))]) hx hb dX6_placeSigns_183 hl (by decide) rfl (fun ls hl => ?_)
                    refine lv_iinc (v := nI (k + 1)) (lv' := [(6, .int (nI (k + 1))), (5, .int (enc (rPick (a 7) (a 9) (a 13) (a 11) (rSgn (rZero (a 16) n) g r i) p1 p2 (i % 2 = 0) (k + 1)))), (7, .int (bv (rBet (a 13) (i % 2 = 0) k none = true))), (0, .ref (b 0)), (1, .int p1), (2, .int p2), (3, .int (nI (rLeft (a 7) (a 9) (a 11) p1 p2 n))), (4, .int (nI i))]) hx hb dX6_placeSigns_185 hl (k := 7) rfl (x_inc k) (by decide) rfl (fun ls hl => ?_)
                    refine lv_goto (tgt := 75) hx hb dX6_placeSigns_188 (by decide) ?_
                    exact ihk (by omega) () _ trivial (lv_sub hl [3, 4, 5, 6, 7, 1, 0] rfl)
                  · refine lv_iload hx hb dX6_placeSigns_176 (lv_at hl 7 rfl) ?_
                    refine lv_goto (tgt := 183) hx hb dX6_placeSigns_178 (by decide) ?_
                    refine x_tp (y := enc (rPick (a 7) (a 9) (a 13) (a 11) (rSgn (rZero (a 16) n) g r i) p1 p2 (i % 2 = 0) (k + 1))) (by rw [rPick, ho, if_pos ⟨⟨c_92, c_103, c_113⟩, c_173⟩]; rfl) ?_
                    refine lv_istore (lv' := [(5, .int (enc (rPick (a 7) (a 9) (a 13) (a 11) (rSgn (rZero (a 16) n) g r i) p1 p2 (i % 2 = 0) (k + 1)))), (7, .int (bv (rBet (a 13) (i % 2 = 0) k none = true))), (0, .ref (b 0)), (1, .int p1), (2, .int p2), (3, .int (nI (rLeft (a 7) (a 9) (a 11) p1 p2 n))), (4, .int (nI i)), (6, .int (nI k))]) hx hb dX6_placeSigns_183 hl (by decide) rfl (fun ls hl => ?_)
                    refine lv_iinc (v := nI (k + 1)) (lv' := [(6, .int (nI (k + 1))), (5, .int (enc (rPick (a 7) (a 9) (a 13) (a 11) (rSgn (rZero (a 16) n) g r i) p1 p2 (i % 2 = 0) (k + 1)))), (7, .int (bv (rBet (a 13) (i % 2 = 0) k none = true))), (0, .ref (b 0)), (1, .int p1), (2, .int p2), (3, .int (nI (rLeft (a 7) (a 9) (a 11) p1 p2 n))), (4, .int (nI i))]) hx hb dX6_placeSigns_185 hl (k := 7) rfl (x_inc k) (by decide) rfl (fun ls hl => ?_)
                    refine lv_goto (tgt := 75) hx hb dX6_placeSigns_188 (by decide) ?_
                    exact ihk (by omega) () _ trivial (lv_sub hl [3, 4, 5, 6, 7, 1, 0] rfl)
                refine lv_iload hx hb dX6_placeSigns_116 (lv_at hl 5 rfl) ?_
                refine lv_sipush (v := (-1000)) hx hb dX6_placeSigns_118 (by decide) ?_
                refine lv_icmp_eq (tgt := 164) hx hb dX6_placeSigns_121 (by decide) (fun c_121 => ?_) (fun c_121 => ?_)
                · refine lv_iconst (v := 1) hx hb dX6_placeSigns_164 (by decide) ?_
                  refine lv_goto (tgt := 169) hx hb dX6_placeSigns_165 (by decide) ?_
                  refine x_tp (y := bv (rBet (a 13) (i % 2 = 0) k none = true)) (bv_t rfl).symm ?_
                  exact j_169 _ (lv_sub hl [0, 1, 2, 3, 4, 5, 6] rfl)
                · exact absurd rfl c_121
        | some j =>
          have hj := (rPick_lt ho).1
          have hl := lv_cast (l' := [(0, .ref (b 0)), (1, .int p1), (2, .int p2), (3, .int (nI (rLeft (a 7) (a 9) (a 11) p1 p2 n))), (4, .int (nI i)), (5, .int (nI j)), (6, .int (nI k))]) hl (by rw [show enc (rPick (a 7) (a 9) (a 13) (a 11) (rSgn (rZero (a 16) n) g r i) p1 p2 (i % 2 = 0) k) = nI j from (by rw [ho]; rfl)])
          refine lv_aload_n hx hb dX6_placeSigns_84 rfl (lv_at hl 0 rfl) ?_
          refine lv_iload hx hb dX6_placeSigns_85 (lv_at hl 6 rfl) ?_
          refine lv_iload_n hx hb dX6_placeSigns_87 rfl (lv_at hl 1 rfl) ?_
          refine lv_iload_n hx hb dX6_placeSigns_88 rfl (lv_at hl 2 rfl) ?_
          refine rcVi (As := [.int (nI k), .int p1, .int p2]) (rest := []) ⟨hx, hb, hml, hown, hts⟩ (k6_isAt l D b cA u n m (va_up a 16 (rSgn (rZero (a 16) n) g r i)) k p1 p2 (by omega)) (cwV 3 hts gX6_placeSigns_X6_isAt rfl rfl rfl (by decide +kernel) ⟨Nat.le_of_ble_eq_true rfl, Nat.le_of_ble_eq_true rfl⟩) (va_recv hK.1 hP (ci := 6) (q0 := 0) rfl rfl) hP hK rfl hl.1 rfl (Nat.le_of_ble_eq_true rfl) dX6_placeSigns_89 ⟨Nat.zero_le _, Nat.zero_le _⟩ ?_
          refine x_ifeq (tgt := 185) hx hb dX6_placeSigns_92 (by decide) (fun c_92 => ?_) (fun c_92 => ?_)
          · have hl := lv_cast (l' := [(0, .ref (b 0)), (1, .int p1), (2, .int p2), (3, .int (nI (rLeft (a 7) (a 9) (a 11) p1 p2 n))), (4, .int (nI i)), (5, .int (enc (rPick (a 7) (a 9) (a 13) (a 11) (rSgn (rZero (a 16) n) g r i) p1 p2 (i % 2 = 0) (k + 1)))), (6, .int (nI k))]) hl (by rw [show nI j = enc (rPick (a 7) (a 9) (a 13) (a 11) (rSgn (rZero (a 16) n) g r i) p1 p2 (i % 2 = 0) (k + 1)) from (by rw [rPick, ho, if_neg (fun h => c_92 h.1.1)]; rfl)])
            refine lv_iinc (v := nI (k + 1)) (lv' := [(6, .int (nI (k + 1))), (0, .ref (b 0)), (1, .int p1), (2, .int p2), (3, .int (nI (rLeft (a 7) (a 9) (a 11) p1 p2 n))), (4, .int (nI i)), (5, .int (enc (rPick (a 7) (a 9) (a 13) (a 11) (rSgn (rZero (a 16) n) g r i) p1 p2 (i % 2 = 0) (k + 1))))]) hx hb dX6_placeSigns_185 hl (k := 6) rfl (x_inc k) (by decide) rfl (fun ls hl => ?_)
            refine lv_goto (tgt := 75) hx hb dX6_placeSigns_188 (by decide) ?_
            exact ihk (by omega) () _ trivial (lv_sub hl [1, 2, 3, 4, 5, 6, 0] rfl)
          · refine lv_aload_n hx hb dX6_placeSigns_95 rfl (lv_at hl 0 rfl) ?_
            refine va_get (D := D) (ci := 6) (v := .ref (b 11)) (C := RX6) (T := TX6) (N := 23) hx hb hts hiX60 hown hK.1 hP 0 rfl rfl 14 (by decide) f2 (fun _ h9 => h9) rfl dX6_placeSigns_96 ?_
            refine lv_iload hx hb dX6_placeSigns_99 (lv_at hl 6 rfl) ?_
            refine x_iald hx hb hK hP 11 0 rfl rfl (k := k) (by omega) (by decide) dX6_placeSigns_101 ?_
            refine lv_iconst (v := 3) hx hb dX6_placeSigns_102 (by decide) ?_
            refine lv_icmp_eq (tgt := 185) hx hb dX6_placeSigns_103 (by decide) (fun c_103 => ?_) (fun c_103 => ?_)
            · have hl := lv_cast (l' := [(0, .ref (b 0)), (1, .int p1), (2, .int p2), (3, .int (nI (rLeft (a 7) (a 9) (a 11) p1 p2 n))), (4, .int (nI i)), (5, .int (enc (rPick (a 7) (a 9) (a 13) (a 11) (rSgn (rZero (a 16) n) g r i) p1 p2 (i % 2 = 0) (k + 1)))), (6, .int (nI k))]) hl (by rw [show nI j = enc (rPick (a 7) (a 9) (a 13) (a 11) (rSgn (rZero (a 16) n) g r i) p1 p2 (i % 2 = 0) (k + 1)) from (by rw [rPick, ho, if_neg (fun h => h.1.2.1 c_103)]; rfl)])
              refine lv_iinc (v := nI (k + 1)) (lv' := [(6, .int (nI (k + 1))), (0, .ref (b 0)), (1, .int p1), (2, .int p2), (3, .int (nI (rLeft (a 7) (a 9) (a 11) p1 p2 n))), (4, .int (nI i)), (5, .int (enc (rPick (a 7) (a 9) (a 13) (a 11) (rSgn (rZero (a 16) n) g r i) p1 p2 (i % 2 = 0) (k + 1))))]) hx hb dX6_placeSigns_185 hl (k := 6) rfl (x_inc k) (by decide) rfl (fun ls hl => ?_)
              refine lv_goto (tgt := 75) hx hb dX6_placeSigns_188 (by decide) ?_
              exact ihk (by omega) () _ trivial (lv_sub hl [1, 2, 3, 4, 5, 6, 0] rfl)
            · refine lv_aload_n hx hb dX6_placeSigns_106 rfl (lv_at hl 0 rfl) ?_
              refine va_get (D := D) (ci := 6) (v := .ref (b 16)) (C := RX6) (T := TX6) (N := 23) hx hb hts hiX60 hown hK.1 hP 0 rfl rfl 22 (by decide) f1 (fun _ h9 => h9) rfl dX6_placeSigns_107 ?_
              refine lv_iload hx hb dX6_placeSigns_110 (lv_at hl 6 rfl) ?_
              refine x_iald hx hb hK hP 16 0 rfl rfl (k := k) (by omega) (by decide) dX6_placeSigns_112 ?_
              refine lv_if_ne (tgt := 185) hx hb dX6_placeSigns_113 (by decide) (fun c_113 => ?_) (fun c_113 => ?_)
              · have hl := lv_cast (l' := [(0, .ref (b 0)), (1, .int p1), (2, .int p2), (3, .int (nI (rLeft (a 7) (a 9) (a 11) p1 p2 n))), (4, .int (nI i)), (5, .int (enc (rPick (a 7) (a 9) (a 13) (a 11) (rSgn (rZero (a 16) n) g r i) p1 p2 (i % 2 = 0) (k + 1)))), (6, .int (nI k))]) hl (by rw [show nI j = enc (rPick (a 7) (a 9) (a 13) (a 11) (rSgn (rZero (a 16) n) g r i) p1 p2 (i % 2 = 0) (k + 1)) from (by rw [rPick, ho, if_neg (fun h => c_113 h.1.2.2)]; rfl)])
                refine lv_iinc (v := nI (k + 1)) (lv' := [(6, .int (nI (k + 1))), (0, .ref (b 0)), (1, .int p1), (2, .int p2), (3, .int (nI (rLeft (a 7) (a 9) (a 11) p1 p2 n))), (4, .int (nI i)), (5, .int (enc (rPick (a 7) (a 9) (a 13) (a 11) (rSgn (rZero (a 16) n) g r i) p1 p2 (i % 2 = 0) (k + 1))))]) hx hb dX6_placeSigns_185 hl (k := 6) rfl (x_inc k) (by decide) rfl (fun ls hl => ?_)
                refine lv_goto (tgt := 75) hx hb dX6_placeSigns_188 (by decide) ?_
                exact ihk (by omega) () _ trivial (lv_sub hl [1, 2, 3, 4, 5, 6, 0] rfl)
              · refine x_join 8 [(0, .ref (b 0)), (1, .int p1), (2, .int p2), (3, .int (nI (rLeft (a 7) (a 9) (a 11) p1 p2 n))), (4, .int (nI i)), (5, .int (nI j)), (6, .int (nI k))] 169 [.int (bv (rBet (a 13) (i % 2 = 0) k (some j) = true))] ?_ (fun j_169 => ?_)
                · intro ls hl
                  refine lv_istore (lv' := [(7, .int (bv (rBet (a 13) (i % 2 = 0) k (some j) = true))), (0, .ref (b 0)), (1, .int p1), (2, .int p2), (3, .int (nI (rLeft (a 7) (a 9) (a 11) p1 p2 n))), (4, .int (nI i)), (5, .int (nI j)), (6, .int (nI k))]) hx hb dX6_placeSigns_169 hl (by decide) rfl (fun ls hl => ?_)
                  refine lv_iload hx hb dX6_placeSigns_171 (lv_at hl 0 rfl) ?_
                  refine x_ifeq (tgt := 181) hx hb dX6_placeSigns_173 (by decide) (fun c_173 => ?_) (fun c_173 => ?_)
                  · refine lv_iload hx hb dX6_placeSigns_181 (lv_at hl 6 rfl) ?_
                    refine x_tp (y := enc (rPick (a 7) (a 9) (a 13) (a 11) (rSgn (rZero (a 16) n) g r i) p1 p2 (i % 2 = 0) (k + 1))) (by rw [rPick, ho, if_neg (fun h => c_173 h.2)]; rfl) ?_
                    refine lv_istore (lv' := [(5, .int (enc (rPick (a 7) (a 9) (a 13) (a 11) (rSgn (rZero (a 16) n) g r i) p1 p2 (i % 2 = 0) (k + 1)))), (7, .int (bv (rBet (a 13) (i % 2 = 0) k (some j) = true))), (0, .ref (b 0)), (1, .int p1), (2, .int p2), (3, .int (nI (rLeft (a 7) (a 9) (a 11) p1 p2 n))), (4, .int (nI i)), (6, .int (nI k))]) hx hb dX6_placeSigns_183 hl (by decide) rfl (fun ls hl => ?_)
                    refine lv_iinc (v := nI (k + 1)) (lv' := [(6, .int (nI (k + 1))), (5, .int (enc (rPick (a 7) (a 9) (a 13) (a 11) (rSgn (rZero (a 16) n) g r i) p1 p2 (i % 2 = 0) (k + 1)))), (7, .int (bv (rBet (a 13) (i % 2 = 0) k (some j) = true))), (0, .ref (b 0)), (1, .int p1), (2, .int p2), (3, .int (nI (rLeft (a 7) (a 9) (a 11) p1 p2 n))), (4, .int (nI i))]) hx hb dX6_placeSigns_185 hl (k := 7) rfl (x_inc k) (by decide) rfl (fun ls hl => ?_)
                    refine lv_goto (tgt := 75) hx hb dX6_placeSigns_188 (by decide) ?_
                    exact ihk (by omega) () _ trivial (lv_sub hl [3, 4, 5, 6, 7, 1, 0] rfl)
                  · refine lv_iload hx hb dX6_placeSigns_176 (lv_at hl 7 rfl) ?_
                    refine lv_goto (tgt := 183) hx hb dX6_placeSigns_178 (by decide) ?_
                    refine x_tp (y := enc (rPick (a 7) (a 9) (a 13) (a 11) (rSgn (rZero (a 16) n) g r i) p1 p2 (i % 2 = 0) (k + 1))) (by rw [rPick, ho, if_pos ⟨⟨c_92, c_103, c_113⟩, c_173⟩]; rfl) ?_
                    refine lv_istore (lv' := [(5, .int (enc (rPick (a 7) (a 9) (a 13) (a 11) (rSgn (rZero (a 16) n) g r i) p1 p2 (i % 2 = 0) (k + 1)))), (7, .int (bv (rBet (a 13) (i % 2 = 0) k (some j) = true))), (0, .ref (b 0)), (1, .int p1), (2, .int p2), (3, .int (nI (rLeft (a 7) (a 9) (a 11) p1 p2 n))), (4, .int (nI i)), (6, .int (nI k))]) hx hb dX6_placeSigns_183 hl (by decide) rfl (fun ls hl => ?_)
                    refine lv_iinc (v := nI (k + 1)) (lv' := [(6, .int (nI (k + 1))), (5, .int (enc (rPick (a 7) (a 9) (a 13) (a 11) (rSgn (rZero (a 16) n) g r i) p1 p2 (i % 2 = 0) (k + 1)))), (7, .int (bv (rBet (a 13) (i % 2 = 0) k (some j) = true))), (0, .ref (b 0)), (1, .int p1), (2, .int p2), (3, .int (nI (rLeft (a 7) (a 9) (a 11) p1 p2 n))), (4, .int (nI i))]) hx hb dX6_placeSigns_185 hl (k := 7) rfl (x_inc k) (by decide) rfl (fun ls hl => ?_)
                    refine lv_goto (tgt := 75) hx hb dX6_placeSigns_188 (by decide) ?_
                    exact ihk (by omega) () _ trivial (lv_sub hl [3, 4, 5, 6, 7, 1, 0] rfl)
                refine lv_iload hx hb dX6_placeSigns_116 (lv_at hl 5 rfl) ?_
                refine lv_sipush (v := (-1000)) hx hb dX6_placeSigns_118 (by decide) ?_
                refine lv_icmp_eq (tgt := 164) hx hb dX6_placeSigns_121 (by decide) (fun c_121 => ?_) (fun c_121 => ?_)
                · exact absurd c_121 (nI_nm (by omega))
                · refine lv_iload hx hb dX6_placeSigns_124 (lv_at hl 4 rfl) ?_
                  refine lv_iconst (v := 2) hx hb dX6_placeSigns_126 (by decide) ?_
                  refine lv_irem hx hb dX6_placeSigns_127 (by decide) ?_
                  refine x_tp (y := nI (i % 2)) (pk_rem (a := i) (d := 2) (by omega) (by decide) (by decide)) ?_
                  refine lv_if_ne (tgt := 149) hx hb dX6_placeSigns_128 (by decide) (fun c_128 => ?_) (fun c_128 => ?_)
                  · have hev : ¬ i % 2 = 0 := fun h => c_128 (by rw [h]; rfl)
                    refine lv_aload_n hx hb dX6_placeSigns_149 rfl (lv_at hl 0 rfl) ?_
                    refine lv_iload hx hb dX6_placeSigns_150 (lv_at hl 6 rfl) ?_
                    refine rcVi (As := [.int (nI k)]) (rest := []) ⟨hx, hb, hml, hown, hts⟩ (k6_step l D b cA u n m (va_up a 16 (rSgn (rZero (a 16) n) g r i)) k (by omega)) (cwV 1 hts gX6_placeSigns_X6_step rfl rfl rfl (by decide +kernel) ⟨Nat.le_of_ble_eq_true rfl, Nat.le_of_ble_eq_true rfl⟩) (va_recv hK.1 hP (ci := 6) (q0 := 0) rfl rfl) hP hK rfl hl.1 rfl (Nat.le_of_ble_eq_true rfl) dX6_placeSigns_152 ⟨Nat.zero_le _, Nat.zero_le _⟩ ?_
                    refine lv_aload_n hx hb dX6_placeSigns_155 rfl (lv_at hl 0 rfl) ?_
                    refine lv_iload hx hb dX6_placeSigns_156 (lv_at hl 5 rfl) ?_
                    refine rcVi (As := [.int (nI j)]) (rest := [.int (a 13 k)]) ⟨hx, hb, hml, hown, hts⟩ (k6_step l D b cA u n m (va_up a 16 (rSgn (rZero (a 16) n) g r i)) j (by omega)) (cwV 1 hts gX6_placeSigns_X6_step rfl rfl rfl (by decide +kernel) ⟨Nat.le_of_ble_eq_true rfl, Nat.le_of_ble_eq_true rfl⟩) (va_recv hK.1 hP (ci := 6) (q0 := 0) rfl rfl) hP hK rfl hl.1 rfl (Nat.le_of_ble_eq_true rfl) dX6_placeSigns_158 ⟨Nat.zero_le _, Nat.zero_le _⟩ ?_
                    refine x_ige (tgt := 168) hx hb dX6_placeSigns_161 (by decide) (fun c_161 => ?_) (fun c_161 => ?_)
                    · refine lv_iconst (v := 0) hx hb dX6_placeSigns_168 (by decide) ?_
                      refine x_tp (y := bv (rBet (a 13) (i % 2 = 0) k (some j) = true)) (bv_f (fun h => c_161 ((rBet_o hev).mp h))).symm ?_
                      exact j_169 _ (lv_sub hl [0, 1, 2, 3, 4, 5, 6] rfl)
                    · refine lv_iconst (v := 1) hx hb dX6_placeSigns_164 (by decide) ?_
                      refine lv_goto (tgt := 169) hx hb dX6_placeSigns_165 (by decide) ?_
                      refine x_tp (y := bv (rBet (a 13) (i % 2 = 0) k (some j) = true)) (bv_t ((rBet_o hev).mpr c_161)).symm ?_
                      exact j_169 _ (lv_sub hl [0, 1, 2, 3, 4, 5, 6] rfl)
                  · have hev : i % 2 = 0 := Classical.not_not.mp (fun h => nI_ne0 (Nat.pos_of_ne_zero h) (by omega) c_128)
                    refine lv_aload_n hx hb dX6_placeSigns_131 rfl (lv_at hl 0 rfl) ?_
                    refine lv_iload hx hb dX6_placeSigns_132 (lv_at hl 6 rfl) ?_
                    refine rcVi (As := [.int (nI k)]) (rest := []) ⟨hx, hb, hml, hown, hts⟩ (k6_step l D b cA u n m (va_up a 16 (rSgn (rZero (a 16) n) g r i)) k (by omega)) (cwV 1 hts gX6_placeSigns_X6_step rfl rfl rfl (by decide +kernel) ⟨Nat.le_of_ble_eq_true rfl, Nat.le_of_ble_eq_true rfl⟩) (va_recv hK.1 hP (ci := 6) (q0 := 0) rfl rfl) hP hK rfl hl.1 rfl (Nat.le_of_ble_eq_true rfl) dX6_placeSigns_134 ⟨Nat.zero_le _, Nat.zero_le _⟩ ?_
                    refine lv_aload_n hx hb dX6_placeSigns_137 rfl (lv_at hl 0 rfl) ?_
                    refine lv_iload hx hb dX6_placeSigns_138 (lv_at hl 5 rfl) ?_
                    refine rcVi (As := [.int (nI j)]) (rest := [.int (a 13 k)]) ⟨hx, hb, hml, hown, hts⟩ (k6_step l D b cA u n m (va_up a 16 (rSgn (rZero (a 16) n) g r i)) j (by omega)) (cwV 1 hts gX6_placeSigns_X6_step rfl rfl rfl (by decide +kernel) ⟨Nat.le_of_ble_eq_true rfl, Nat.le_of_ble_eq_true rfl⟩) (va_recv hK.1 hP (ci := 6) (q0 := 0) rfl rfl) hP hK rfl hl.1 rfl (Nat.le_of_ble_eq_true rfl) dX6_placeSigns_140 ⟨Nat.zero_le _, Nat.zero_le _⟩ ?_
                    refine x_ile (tgt := 168) hx hb dX6_placeSigns_143 (by decide) (fun c_143 => ?_) (fun c_143 => ?_)
                    · refine lv_iconst (v := 0) hx hb dX6_placeSigns_168 (by decide) ?_
                      refine x_tp (y := bv (rBet (a 13) (i % 2 = 0) k (some j) = true)) (bv_f (fun h => c_143 ((rBet_e hev).mp h))).symm ?_
                      exact j_169 _ (lv_sub hl [0, 1, 2, 3, 4, 5, 6] rfl)
                    · refine lv_goto (tgt := 164) hx hb dX6_placeSigns_146 (by decide) ?_
                      refine lv_iconst (v := 1) hx hb dX6_placeSigns_164 (by decide) ?_
                      refine lv_goto (tgt := 169) hx hb dX6_placeSigns_165 (by decide) ?_
                      refine x_tp (y := bv (rBet (a 13) (i % 2 = 0) k (some j) = true)) (bv_t ((rBet_e hev).mpr c_143)).symm ?_
                      exact j_169 _ (lv_sub hl [0, 1, 2, 3, 4, 5, 6] rfl)
  · refine lv_aload_n hx hb dX6_placeSigns_14 rfl (lv_at hl 0 rfl) ?_
    refine va_get (D := D) (ci := 6) (v := .ref (b 16)) (C := RX6) (T := TX6) (N := 23) hx hb hts hiX60 hown hK.1 hP 0 rfl rfl 22 (by decide) f1 (fun _ h9 => h9) rfl dX6_placeSigns_15 ?_
    refine lv_iload hx hb dX6_placeSigns_18 (lv_at hl 4 rfl) ?_
    refine lv_iconst (v := 0) hx hb dX6_placeSigns_20 (by decide) ?_
    refine x_iast hx hb hK hP hD hS 16 0 rfl rfl (k := k) (by omega) (by decide) dX6_placeSigns_21 (fun H locs hP hD hS => ?_)
    have hP : va_P D vwCl (mW b cA u n m (va_up (va_up a 16 (rZero (a 16) k)) 16 (upd (rZero (a 16) k) k 0))) H := hP
    have hD : va_D (va_A (mW b cA u n m a) sz) (mW b cA u n m (va_up (va_up a 16 (rZero (a 16) k)) 16 (upd (rZero (a 16) k) k 0))) := hD
    have hP : va_P D vwCl (mW b cA u n m (va_up a 16 (rZero (a 16) (k + 1)))) H := hP
    have hD : va_D (va_A (mW b cA u n m a) sz) (mW b cA u n m (va_up a 16 (rZero (a 16) (k + 1)))) := hD
    refine lv_iload_n hx hb dX6_placeSigns_22 rfl (lv_at hl 3 rfl) ?_
    refine x_joinW (D := D) (A := (va_A (mW b cA u n m a) sz)) (H0 := s.heap) 8 [(0, .ref (b 0)), (1, .int p1), (2, .int p2), (3, .int (nI (rLeft (a 7) (a 9) (a 11) p1 p2 k))), (4, .int (nI k))] (mW b cA u n m (va_up a 16 (rZero (a 16) (k + 1)))) 51 [.int (nI (rLeft (a 7) (a 9) (a 11) p1 p2 (k + 1)))] ?_ (fun j_51 => ?_)
    · intro ls H locs hl hP hD hS
      refine lv_istore_n (lv' := [(3, .int (nI (rLeft (a 7) (a 9) (a 11) p1 p2 (k + 1)))), (0, .ref (b 0)), (1, .int p1), (2, .int p2), (4, .int (nI k))]) hx hb dX6_placeSigns_51 rfl hl (by decide) rfl (fun ls hl => ?_)
      refine lv_iinc (v := nI (k + 1)) (lv' := [(4, .int (nI (k + 1))), (3, .int (nI (rLeft (a 7) (a 9) (a 11) p1 p2 (k + 1)))), (0, .ref (b 0)), (1, .int p1), (2, .int p2)]) hx hb dX6_placeSigns_52 hl (k := 4) rfl (x_inc k) (by decide) rfl (fun ls hl => ?_)
      refine lv_goto (tgt := 5) hx hb dX6_placeSigns_55 (by decide) ?_
      exact ihk (by omega) () _ _ _ trivial (lv_sub hl [2, 3, 4, 1, 0] rfl) hP hD hS
    refine lv_aload_n hx hb dX6_placeSigns_23 rfl (lv_at hl 0 rfl) ?_
    refine lv_iload hx hb dX6_placeSigns_24 (lv_at hl 4 rfl) ?_
    refine lv_iload_n hx hb dX6_placeSigns_26 rfl (lv_at hl 1 rfl) ?_
    refine lv_iload_n hx hb dX6_placeSigns_27 rfl (lv_at hl 2 rfl) ?_
    refine rcVi (As := [.int (nI k), .int p1, .int p2]) (rest := [.int (nI (rLeft (a 7) (a 9) (a 11) p1 p2 k))]) ⟨hx, hb, hml, hown, hts⟩ (k6_isAt l D b cA u n m (va_up a 16 (rZero (a 16) (k + 1))) k p1 p2 (by omega)) (cwV 3 hts gX6_placeSigns_X6_isAt rfl rfl rfl (by decide +kernel) ⟨Nat.le_of_ble_eq_true rfl, Nat.le_of_ble_eq_true rfl⟩) (va_recv hK.1 hP (ci := 6) (q0 := 0) rfl rfl) hP hK rfl hl.1 rfl (Nat.le_of_ble_eq_true rfl) dX6_placeSigns_28 ⟨Nat.zero_le _, Nat.zero_le _⟩ ?_
    refine x_ifeq (tgt := 49) hx hb dX6_placeSigns_31 (by decide) (fun c_31 => ?_) (fun c_31 => ?_)
    · refine lv_iconst (v := 0) hx hb dX6_placeSigns_49 (by decide) ?_
      refine lv_iadd hx hb dX6_placeSigns_50 ?_
      refine x_tp (y := nI (rLeft (a 7) (a 9) (a 11) p1 p2 (k + 1))) (rLeft_f (fun h => c_31 h.1)) ?_
      exact j_51 _ _ _ (lv_sub hl [0, 1, 2, 3, 4] rfl) hP hD hS
    · refine lv_aload_n hx hb dX6_placeSigns_34 rfl (lv_at hl 0 rfl) ?_
      refine va_get (D := D) (ci := 6) (v := .ref (b 11)) (C := RX6) (T := TX6) (N := 23) hx hb hts hiX60 hown hK.1 hP 0 rfl rfl 14 (by decide) f2 (fun _ h9 => h9) rfl dX6_placeSigns_35 ?_
      refine lv_iload hx hb dX6_placeSigns_38 (lv_at hl 4 rfl) ?_
      refine x_iald hx hb hK hP 11 0 rfl rfl (k := k) (by omega) (by decide) dX6_placeSigns_40 ?_
      refine lv_iconst (v := 3) hx hb dX6_placeSigns_41 (by decide) ?_
      refine lv_icmp_eq (tgt := 49) hx hb dX6_placeSigns_42 (by decide) (fun c_42 => ?_) (fun c_42 => ?_)
      · refine lv_iconst (v := 0) hx hb dX6_placeSigns_49 (by decide) ?_
        refine lv_iadd hx hb dX6_placeSigns_50 ?_
        refine x_tp (y := nI (rLeft (a 7) (a 9) (a 11) p1 p2 (k + 1))) (rLeft_f (fun h => h.2 c_42)) ?_
        exact j_51 _ _ _ (lv_sub hl [0, 1, 2, 3, 4] rfl) hP hD hS
      · refine lv_iconst (v := 1) hx hb dX6_placeSigns_45 (by decide) ?_
        refine lv_goto (tgt := 50) hx hb dX6_placeSigns_46 (by decide) ?_
        refine lv_iadd hx hb dX6_placeSigns_50 ?_
        refine x_tp (y := nI (rLeft (a 7) (a 9) (a 11) p1 p2 (k + 1))) (rLeft_t ⟨c_31, c_42⟩) ?_
        exact j_51 _ _ _ (lv_sub hl [0, 1, 2, 3, 4] rfl) hP hD hS

set_option maxHeartbeats 4000000 in
set_option maxRecDepth 100000 in
theorem k6_move (l : Launch) (D : va_G) (b : Nat → Nat) (cA : ClassId) (u : Nat → Int32) (n m : Nat) (a : Nat → Nat → Int32) (sz : Nat) (p1 p2 : Int32) (as : Nat → Int32) (d : Nat → Nat) (hn : n ≤ 60) (has : rAsides (a 7) (a 8) (a 9) (a 13) n p1 p2 as) (hmv : rMoves (a 7) (a 8) (a 9) (a 13) (a 12) (a 11) n p1 p2 (a 15) as d) : Met l yX6_move wsX6_move ({ frames := 7, cells := 0, slots := 0, locals := 170 }) (wPc D (mW b cA u n m a) [(cA, .int)] sz [.ref (b 0), .int p1, .int p2]) (va_Qv (fun _ : Unit => True) (wB D (mW b cA u n m a) sz (fun _ => mW b cA u n m (va_up (va_up a 14 (rMvB (a 14) d 3)) 15 (rCol (a 7) (a 8) (a 9) p1 p2 n (a 15) as d 3)))) (va_A (mW b cA u n m a) sz)) 0 0 (va_A (mW b cA u n m a) sz) := by
  refine w_head (C := RX6) (cc := cX6_move) (maxL := 6) (ret := none) [(0, .ref (b 0)), (1, .int p1), (2, .int p2)] (by decide) rfl rfl (Nat.le_of_ble_eq_true rfl) rfl ?_
  intro p e s mi below meth c hx hb hr hlk hml hown hin hts hP hD hS hA hK ls hl
  have hiX60 : ∀ w ∈ wsX60, w ∈ wsX6_move := fun w h => List.mem_cons_of_mem _ (List.mem_append_right _ h)
  have f0 := hts (.fieldLink RX6 56 "StaffHeadsModel" "movedBy" "[I") (List.mem_of_getElem? (i := 1) rfl)
  have f1 := hts (.fieldLink RX6 76 "StaffHeadsModel" "notes" "I") (List.mem_of_getElem? (i := 2) rfl)
  have f2 := hts (.fieldLink RX6 59 "StaffHeadsModel" "columnOf" "[I") (List.mem_of_getElem? (i := 3) rfl)
  refine lv_iconst (v := 0) hx hb dX6_move_0 (by decide) ?_
  refine x_tp (y := nI 0) nI_0.symm ?_
  refine lv_istore_n (lv' := [(3, .int (nI 0)), (0, .ref (b 0)), (1, .int p1), (2, .int p2)]) hx hb dX6_move_1 rfl hl (by decide) rfl (fun ls hl => ?_)
  refine lpW (G := fun ls H locs => W p l e _ s mi _ below meth c H locs _ _ _ (F0 mi 2 ls [])) 6 3 (fun v (_ : Unit) => [(0, .ref (b 0)), (1, .int p1), (2, .int p2), (3, .int (nI v))]) (fun v (_ : Unit) => mW b cA u n m (va_up (va_up a 14 (rMvB (a 14) d v)) 15 (rCol (a 7) (a 8) (a 9) p1 p2 n (a 15) as d v))) (fun _ _ => True) ?_ 0 () (Nat.zero_le _) trivial (lv_sub hl [1, 2, 3, 0] rfl) hP hD hS
  clear hl hP hD hS
  intro v gu hv hvI ls H locs hl hP hD hS ihv
  refine lv_iload_n hx hb dX6_move_2 rfl (lv_at hl 3 rfl) ?_
  refine lv_iconst (v := 3) hx hb dX6_move_3 (by decide) ?_
  refine x_tp (y := nI 3) (show (3 : Int32) = nI 3 from rfl) ?_
  refine x_nge (tgt := 151) hx hb dX6_move_4 (by decide) (by omega) (by omega) (fun c_4 => ?_) (fun c_4 => ?_)
  · obtain rfl : 3 = v := by omega
    exact w_vret () hx hb hr hlk hP hD hS (trivial) dX6_move_151
  · obtain ⟨hd1, hd2, hd3⟩ := hmv v c_4
    refine lv_aload_n hx hb dX6_move_7 rfl (lv_at hl 0 rfl) ?_
    refine va_get (D := D) (ci := 6) (v := .ref (b 14)) (C := RX6) (T := TX6) (N := 23) hx hb hts hiX60 hown hK.1 hP 0 rfl rfl 20 (by decide) f0 (fun _ h9 => h9) rfl dX6_move_8 ?_
    refine lv_iload_n hx hb dX6_move_11 rfl (lv_at hl 3 rfl) ?_
    refine lv_iconst (v := 0) hx hb dX6_move_12 (by decide) ?_
    refine x_iast hx hb hK hP hD hS 14 0 rfl rfl (k := v) (by omega) (by decide) dX6_move_13 (fun H locs hP hD hS => ?_)
    have hP : va_P D vwCl (mW b cA u n m (va_up (va_up (va_up a 14 (rMvB (a 14) d v)) 15 (rCol (a 7) (a 8) (a 9) p1 p2 n (a 15) as d v)) 14 (upd (rMvB (a 14) d v) v 0))) H := hP
    have hD : va_D (va_A (mW b cA u n m a) sz) (mW b cA u n m (va_up (va_up (va_up a 14 (rMvB (a 14) d v)) 15 (rCol (a 7) (a 8) (a 9) p1 p2 n (a 15) as d v)) 14 (upd (rMvB (a 14) d v) v 0))) := hD
    have hP : va_P D vwCl (mW b cA u n m (va_up (va_up a 14 (upd (rMvB (a 14) d v) v 0)) 15 (rCol (a 7) (a 8) (a 9) p1 p2 n (a 15) as d v))) H := hP
    have hD : va_D (va_A (mW b cA u n m a) sz) (mW b cA u n m (va_up (va_up a 14 (upd (rMvB (a 14) d v) v 0)) 15 (rCol (a 7) (a 8) (a 9) p1 p2 n (a 15) as d v))) := hD
    refine lv_iconst (v := 0) hx hb dX6_move_14 (by decide) ?_
    refine lv_istore (lv' := [(4, .int 0), (0, .ref (b 0)), (1, .int p1), (2, .int p2), (3, .int (nI v))]) hx hb dX6_move_15 hl (by decide) rfl (fun ls hl => ?_)
    refine lv_iconst (v := 0) hx hb dX6_move_17 (by decide) ?_
    refine x_tp (y := nI 0) nI_0.symm ?_
    refine lv_istore (lv' := [(5, .int (nI 0)), (4, .int 0), (0, .ref (b 0)), (1, .int p1), (2, .int p2), (3, .int (nI v))]) hx hb dX6_move_18 hl (by decide) rfl (fun ls hl => ?_)
    refine lpW (G := fun ls H locs => W p l e _ s mi _ below meth c H locs _ _ _ (F0 mi 20 ls [])) 6 n (fun x (_ : Unit) => [(0, .ref (b 0)), (1, .int p1), (2, .int p2), (3, .int (nI v)), (4, .int 0), (5, .int (nI x))]) (fun x (_ : Unit) => mW b cA u n m (va_up (va_up a 14 (upd (rMvB (a 14) d v) v 0)) 15 (rCSet (a 7) (a 8) (a 9) p1 p2 (nI v) (rCol (a 7) (a 8) (a 9) p1 p2 n (a 15) as d v) as x))) (fun _ _ => True) ?_ 0 () (Nat.zero_le _) trivial (lv_sub hl [2, 3, 4, 5, 1, 0] rfl) hP hD hS
    clear hl hP hD hS
    intro x gu hx1 hxI ls H locs hl hP hD hS ihx
    refine lv_iload hx hb dX6_move_20 (lv_at hl 5 rfl) ?_
    refine lv_aload_n hx hb dX6_move_22 rfl (lv_at hl 0 rfl) ?_
    refine va_get (D := D) (ci := 6) (v := .int (nI n)) (C := RX6) (T := TX6) (N := 23) hx hb hts hiX60 hown hK.1 hP 0 rfl rfl 9 (by decide) f1 (fun _ h9 => h9) rfl dX6_move_23 ?_
    refine x_nge (tgt := 60) hx hb dX6_move_26 (by decide) (by omega) (by omega) (fun c_26 => ?_) (fun c_26 => ?_)
    · obtain rfl : n = x := by omega
      have hl : lv_has ls 6 [(0, .ref (b 0)), (1, .int p1), (2, .int p2), (3, .int (nI v)), (4, .int 0)] := lv_sub hl [0, 1, 2, 3, 4] rfl
      have hP : va_P D vwCl (mW b cA u n m (va_up (va_up a 14 (upd (rMvB (a 14) d v) v (nI 0))) 15 (rCIt (a 7) (a 8) (a 9) p1 p2 (nI v) n (rCSet (a 7) (a 8) (a 9) p1 p2 (nI v) (rCol (a 7) (a 8) (a 9) p1 p2 n (a 15) as d v) as n) 0))) H := hP
      have hD : va_D (va_A (mW b cA u n m a) sz) (mW b cA u n m (va_up (va_up a 14 (upd (rMvB (a 14) d v) v (nI 0))) 15 (rCIt (a 7) (a 8) (a 9) p1 p2 (nI v) n (rCSet (a 7) (a 8) (a 9) p1 p2 (nI v) (rCol (a 7) (a 8) (a 9) p1 p2 n (a 15) as d v) as n) 0))) := hD
      refine lpW (G := fun ls H locs => W p l e _ s mi _ below meth c H locs _ _ _ (F0 mi 60 ls [])) 6 (d v) (fun i (_ : Unit) => [(0, .ref (b 0)), (1, .int p1), (2, .int p2), (3, .int (nI v)), (4, .int 0)]) (fun i (_ : Unit) => mW b cA u n m (va_up (va_up a 14 (upd (rMvB (a 14) d v) v (nI i))) 15 (rCIt (a 7) (a 8) (a 9) p1 p2 (nI v) n (rCSet (a 7) (a 8) (a 9) p1 p2 (nI v) (rCol (a 7) (a 8) (a 9) p1 p2 n (a 15) as d v) as n) i))) (fun _ _ => True) ?_ 0 () (Nat.zero_le _) trivial (lv_sub hl [0, 1, 2, 3, 4] rfl) hP hD hS
      clear hl hP hD hS
      intro i gu hi hiI ls H locs hl hP hD hS ihi
      refine lv_iload hx hb dX6_move_60 (lv_at hl 4 rfl) ?_
      refine lv_if_ne (tgt := 145) hx hb dX6_move_62 (by decide) (fun c_62 => ?_) (fun c_62 => ?_)
      · exact absurd rfl c_62
      · refine lv_aload_n hx hb dX6_move_65 rfl (lv_at hl 0 rfl) ?_
        refine lv_iload_n hx hb dX6_move_66 rfl (lv_at hl 1 rfl) ?_
        refine lv_iload_n hx hb dX6_move_67 rfl (lv_at hl 2 rfl) ?_
        refine lv_iload_n hx hb dX6_move_68 rfl (lv_at hl 3 rfl) ?_
        refine rcVi (As := [.int p1, .int p2, .int (nI v)]) (rest := []) ⟨hx, hb, hml, hown, hts⟩ (k6_liesOver l D b cA u n m (va_up (va_up a 14 (upd (rMvB (a 14) d v) v (nI i))) 15 (rCIt (a 7) (a 8) (a 9) p1 p2 (nI v) n (rCSet (a 7) (a 8) (a 9) p1 p2 (nI v) (rCol (a 7) (a 8) (a 9) p1 p2 n (a 15) as d v) as n) i)) p1 p2 (nI v) (by omega)) (cwV 3 hts gX6_move_X6_liesOver rfl rfl rfl (by decide +kernel) ⟨Nat.le_of_ble_eq_true rfl, Nat.le_of_ble_eq_true rfl⟩) (va_recv hK.1 hP (ci := 6) (q0 := 0) rfl rfl) hP hK rfl hl.1 rfl (Nat.le_of_ble_eq_true rfl) dX6_move_69 ⟨Nat.zero_le _, Nat.zero_le _⟩ ?_
        refine x_ifne (tgt := 79) hx hb dX6_move_72 (by decide) (fun c_72 => ?_) (fun c_72 => ?_)
        · have hid : i < d v := by
            rcases Nat.lt_or_ge i (d v) with q | q
            · exact q
            · obtain rfl : d v = i := by omega
              exact absurd c_72 hd2
          refine lv_iconst (v := 0) hx hb dX6_move_79 (by decide) ?_
          refine lv_istore (lv' := [(4, .int 0), (0, .ref (b 0)), (1, .int p1), (2, .int p2), (3, .int (nI v))]) hx hb dX6_move_80 hl (by decide) rfl (fun ls hl => ?_)
          refine lv_iload hx hb dX6_move_82 (lv_at hl 0 rfl) ?_
          refine lv_if_ne (tgt := 60) hx hb dX6_move_84 (by decide) (fun c_84 => ?_) (fun c_84 => ?_)
          · exact absurd rfl c_84
          · refine lv_aload_n hx hb dX6_move_87 rfl (lv_at hl 1 rfl) ?_
            refine va_get (D := D) (ci := 6) (v := .ref (b 14)) (C := RX6) (T := TX6) (N := 23) hx hb hts hiX60 hown hK.1 hP 0 rfl rfl 20 (by decide) f0 (fun _ h9 => h9) rfl dX6_move_88 ?_
            refine lv_iload_n hx hb dX6_move_91 rfl (lv_at hl 4 rfl) ?_
            refine lv_dup2_11 hx hb dX6_move_92 rfl rfl ?_
            refine x_iald hx hb hK hP 14 0 rfl rfl (k := v) (by omega) (by decide) dX6_move_93 ?_
            refine x_tp (y := nI i) pk_us ?_
            refine lv_iconst (v := 1) hx hb dX6_move_94 (by decide) ?_
            refine lv_iadd hx hb dX6_move_95 ?_
            refine x_tp (y := nI (i + 1)) (nI_1 i) ?_
            refine x_iast hx hb hK hP hD hS 14 0 rfl rfl (k := v) (by omega) (by decide) dX6_move_96 (fun H locs hP hD hS => ?_)
            have hP : va_P D vwCl (mW b cA u n m (va_up (va_up (va_up a 14 (upd (rMvB (a 14) d v) v (nI i))) 15 (rCIt (a 7) (a 8) (a 9) p1 p2 (nI v) n (rCSet (a 7) (a 8) (a 9) p1 p2 (nI v) (rCol (a 7) (a 8) (a 9) p1 p2 n (a 15) as d v) as n) i)) 14 (upd (upd (rMvB (a 14) d v) v (nI i)) v (nI (i + 1))))) H := hP
            have hD : va_D (va_A (mW b cA u n m a) sz) (mW b cA u n m (va_up (va_up (va_up a 14 (upd (rMvB (a 14) d v) v (nI i))) 15 (rCIt (a 7) (a 8) (a 9) p1 p2 (nI v) n (rCSet (a 7) (a 8) (a 9) p1 p2 (nI v) (rCol (a 7) (a 8) (a 9) p1 p2 n (a 15) as d v) as n) i)) 14 (upd (upd (rMvB (a 14) d v) v (nI i)) v (nI (i + 1))))) := hD
            have hwe : mW b cA u n m (va_up (va_up (va_up a 14 (upd (rMvB (a 14) d v) v (nI i))) 15 (rCIt (a 7) (a 8) (a 9) p1 p2 (nI v) n (rCSet (a 7) (a 8) (a 9) p1 p2 (nI v) (rCol (a 7) (a 8) (a 9) p1 p2 n (a 15) as d v) as n) i)) 14 (upd (upd (rMvB (a 14) d v) v (nI i)) v (nI (i + 1)))) = mW b cA u n m (va_up (va_up a 14 (upd (rMvB (a 14) d v) v (nI (i + 1)))) 15 (rCAdd (a 7) (a 8) (a 9) p1 p2 (nI v) (rCIt (a 7) (a 8) (a 9) p1 p2 (nI v) n (rCSet (a 7) (a 8) (a 9) p1 p2 (nI v) (rCol (a 7) (a 8) (a 9) p1 p2 n (a 15) as d v) as n) i) 0)) := (by rw [upd_same]; rfl)
            rw [hwe] at hP hD
            refine lv_iconst (v := 0) hx hb dX6_move_97 (by decide) ?_
            refine x_tp (y := nI 0) nI_0.symm ?_
            refine lv_istore (lv' := [(5, .int (nI 0)), (4, .int 0), (0, .ref (b 0)), (1, .int p1), (2, .int p2), (3, .int (nI v))]) hx hb dX6_move_98 hl (by decide) rfl (fun ls hl => ?_)
            refine lpW (G := fun ls H locs => W p l e _ s mi _ below meth c H locs _ _ _ (F0 mi 100 ls [])) 6 n (fun x (_ : Unit) => [(0, .ref (b 0)), (1, .int p1), (2, .int p2), (3, .int (nI v)), (4, .int 0), (5, .int (nI x))]) (fun x (_ : Unit) => mW b cA u n m (va_up (va_up a 14 (upd (rMvB (a 14) d v) v (nI (i + 1)))) 15 (rCAdd (a 7) (a 8) (a 9) p1 p2 (nI v) (rCIt (a 7) (a 8) (a 9) p1 p2 (nI v) n (rCSet (a 7) (a 8) (a 9) p1 p2 (nI v) (rCol (a 7) (a 8) (a 9) p1 p2 n (a 15) as d v) as n) i) x))) (fun _ _ => True) ?_ 0 () (Nat.zero_le _) trivial (lv_sub hl [2, 3, 4, 5, 1, 0] rfl) hP hD hS
            clear hl hP hD hS
            intro x gu hx1 hxI ls H locs hl hP hD hS ihx
            refine lv_iload hx hb dX6_move_100 (lv_at hl 5 rfl) ?_
            refine lv_aload_n hx hb dX6_move_102 rfl (lv_at hl 0 rfl) ?_
            refine va_get (D := D) (ci := 6) (v := .int (nI n)) (C := RX6) (T := TX6) (N := 23) hx hb hts hiX60 hown hK.1 hP 0 rfl rfl 9 (by decide) f1 (fun _ h9 => h9) rfl dX6_move_103 ?_
            refine x_nge (tgt := 142) hx hb dX6_move_106 (by decide) (by omega) (by omega) (fun c_106 => ?_) (fun c_106 => ?_)
            · obtain rfl : n = x := by omega
              have hl : lv_has ls 6 [(0, .ref (b 0)), (1, .int p1), (2, .int p2), (3, .int (nI v)), (4, .int 0)] := lv_sub hl [0, 1, 2, 3, 4] rfl
              have hP : va_P D vwCl (mW b cA u n m (va_up (va_up a 14 (upd (rMvB (a 14) d v) v (nI (i + 1)))) 15 (rCIt (a 7) (a 8) (a 9) p1 p2 (nI v) n (rCSet (a 7) (a 8) (a 9) p1 p2 (nI v) (rCol (a 7) (a 8) (a 9) p1 p2 n (a 15) as d v) as n) (i + 1)))) H := hP
              have hD : va_D (va_A (mW b cA u n m a) sz) (mW b cA u n m (va_up (va_up a 14 (upd (rMvB (a 14) d v) v (nI (i + 1)))) 15 (rCIt (a 7) (a 8) (a 9) p1 p2 (nI v) n (rCSet (a 7) (a 8) (a 9) p1 p2 (nI v) (rCol (a 7) (a 8) (a 9) p1 p2 n (a 15) as d v) as n) (i + 1)))) := hD
              refine lv_goto (tgt := 60) hx hb dX6_move_142 (by decide) ?_
              exact ihi (by omega) () _ _ _ trivial (lv_sub hl [0, 1, 2, 3, 4] rfl) hP hD hS
            · refine lv_aload_n hx hb dX6_move_109 rfl (lv_at hl 0 rfl) ?_
              refine va_get (D := D) (ci := 6) (v := .ref (b 15)) (C := RX6) (T := TX6) (N := 23) hx hb hts hiX60 hown hK.1 hP 0 rfl rfl 21 (by decide) f2 (fun _ h9 => h9) rfl dX6_move_110 ?_
              refine lv_iload hx hb dX6_move_113 (lv_at hl 5 rfl) ?_
              refine lv_dup2_11 hx hb dX6_move_115 rfl rfl ?_
              refine x_iald hx hb hK hP 15 0 rfl rfl (k := x) (by omega) (by decide) dX6_move_116 ?_
              refine x_joinW (D := D) (A := (va_A (mW b cA u n m a) sz)) (H0 := s.heap) 6 [(0, .ref (b 0)), (1, .int p1), (2, .int p2), (3, .int (nI v)), (4, .int 0), (5, .int (nI x))] (mW b cA u n m (va_up (va_up a 14 (upd (rMvB (a 14) d v) v (nI (i + 1)))) 15 (rCAdd (a 7) (a 8) (a 9) p1 p2 (nI v) (rCIt (a 7) (a 8) (a 9) p1 p2 (nI v) n (rCSet (a 7) (a 8) (a 9) p1 p2 (nI v) (rCol (a 7) (a 8) (a 9) p1 p2 n (a 15) as d v) as n) i) x))) 135 [.int ((rCAdd (a 7) (a 8) (a 9) p1 p2 (nI v) (rCIt (a 7) (a 8) (a 9) p1 p2 (nI v) n (rCSet (a 7) (a 8) (a 9) p1 p2 (nI v) (rCol (a 7) (a 8) (a 9) p1 p2 n (a 15) as d v) as n) i) x) x + (if rIn (a 7) (a 8) (a 9) x p1 p2 (nI v) then 1 else 0)), .int (nI x), .ref (b 15)] ?_ (fun j_135 => ?_)
              · intro ls H locs hl hP hD hS
                refine x_iast hx hb hK hP hD hS 15 0 rfl rfl (k := x) (by omega) (by decide) dX6_move_135 (fun H locs hP hD hS => ?_)
                have hP : va_P D vwCl (mW b cA u n m (va_up (va_up (va_up a 14 (upd (rMvB (a 14) d v) v (nI (i + 1)))) 15 (rCAdd (a 7) (a 8) (a 9) p1 p2 (nI v) (rCIt (a 7) (a 8) (a 9) p1 p2 (nI v) n (rCSet (a 7) (a 8) (a 9) p1 p2 (nI v) (rCol (a 7) (a 8) (a 9) p1 p2 n (a 15) as d v) as n) i) x)) 15 (upd (rCAdd (a 7) (a 8) (a 9) p1 p2 (nI v) (rCIt (a 7) (a 8) (a 9) p1 p2 (nI v) n (rCSet (a 7) (a 8) (a 9) p1 p2 (nI v) (rCol (a 7) (a 8) (a 9) p1 p2 n (a 15) as d v) as n) i) x) x ((rCAdd (a 7) (a 8) (a 9) p1 p2 (nI v) (rCIt (a 7) (a 8) (a 9) p1 p2 (nI v) n (rCSet (a 7) (a 8) (a 9) p1 p2 (nI v) (rCol (a 7) (a 8) (a 9) p1 p2 n (a 15) as d v) as n) i) x) x + (if rIn (a 7) (a 8) (a 9) x p1 p2 (nI v) then 1 else 0))))) H := hP
                have hD : va_D (va_A (mW b cA u n m a) sz) (mW b cA u n m (va_up (va_up (va_up a 14 (upd (rMvB (a 14) d v) v (nI (i + 1)))) 15 (rCAdd (a 7) (a 8) (a 9) p1 p2 (nI v) (rCIt (a 7) (a 8) (a 9) p1 p2 (nI v) n (rCSet (a 7) (a 8) (a 9) p1 p2 (nI v) (rCol (a 7) (a 8) (a 9) p1 p2 n (a 15) as d v) as n) i) x)) 15 (upd (rCAdd (a 7) (a 8) (a 9) p1 p2 (nI v) (rCIt (a 7) (a 8) (a 9) p1 p2 (nI v) n (rCSet (a 7) (a 8) (a 9) p1 p2 (nI v) (rCol (a 7) (a 8) (a 9) p1 p2 n (a 15) as d v) as n) i) x) x ((rCAdd (a 7) (a 8) (a 9) p1 p2 (nI v) (rCIt (a 7) (a 8) (a 9) p1 p2 (nI v) n (rCSet (a 7) (a 8) (a 9) p1 p2 (nI v) (rCol (a 7) (a 8) (a 9) p1 p2 n (a 15) as d v) as n) i) x) x + (if rIn (a 7) (a 8) (a 9) x p1 p2 (nI v) then 1 else 0))))) := hD
                have hP : va_P D vwCl (mW b cA u n m (va_up (va_up a 14 (upd (rMvB (a 14) d v) v (nI (i + 1)))) 15 (rCAdd (a 7) (a 8) (a 9) p1 p2 (nI v) (rCIt (a 7) (a 8) (a 9) p1 p2 (nI v) n (rCSet (a 7) (a 8) (a 9) p1 p2 (nI v) (rCol (a 7) (a 8) (a 9) p1 p2 n (a 15) as d v) as n) i) (x + 1)))) H := hP
                have hD : va_D (va_A (mW b cA u n m a) sz) (mW b cA u n m (va_up (va_up a 14 (upd (rMvB (a 14) d v) v (nI (i + 1)))) 15 (rCAdd (a 7) (a 8) (a 9) p1 p2 (nI v) (rCIt (a 7) (a 8) (a 9) p1 p2 (nI v) n (rCSet (a 7) (a 8) (a 9) p1 p2 (nI v) (rCol (a 7) (a 8) (a 9) p1 p2 n (a 15) as d v) as n) i) (x + 1)))) := hD
                refine lv_iinc (v := nI (x + 1)) (lv' := [(5, .int (nI (x + 1))), (0, .ref (b 0)), (1, .int p1), (2, .int p2), (3, .int (nI v)), (4, .int 0)]) hx hb dX6_move_136 hl (k := 5) rfl (x_inc x) (by decide) rfl (fun ls hl => ?_)
                refine lv_goto (tgt := 100) hx hb dX6_move_139 (by decide) ?_
                exact ihx (by omega) () _ _ _ trivial (lv_sub hl [1, 2, 3, 4, 5, 0] rfl) hP hD hS
              refine lv_aload_n hx hb dX6_move_117 rfl (lv_at hl 0 rfl) ?_
              refine lv_iload hx hb dX6_move_118 (lv_at hl 5 rfl) ?_
              refine lv_iload_n hx hb dX6_move_120 rfl (lv_at hl 1 rfl) ?_
              refine lv_iload_n hx hb dX6_move_121 rfl (lv_at hl 2 rfl) ?_
              refine lv_iload_n hx hb dX6_move_122 rfl (lv_at hl 3 rfl) ?_
              refine rcVi (As := [.int (nI x), .int p1, .int p2, .int (nI v)]) (rest := [.int ((rCAdd (a 7) (a 8) (a 9) p1 p2 (nI v) (rCIt (a 7) (a 8) (a 9) p1 p2 (nI v) n (rCSet (a 7) (a 8) (a 9) p1 p2 (nI v) (rCol (a 7) (a 8) (a 9) p1 p2 n (a 15) as d v) as n) i) x) x), .int (nI x), .ref (b 15)]) ⟨hx, hb, hml, hown, hts⟩ (k6_isIn l D b cA u n m (va_up (va_up a 14 (upd (rMvB (a 14) d v) v (nI (i + 1)))) 15 (rCAdd (a 7) (a 8) (a 9) p1 p2 (nI v) (rCIt (a 7) (a 8) (a 9) p1 p2 (nI v) n (rCSet (a 7) (a 8) (a 9) p1 p2 (nI v) (rCol (a 7) (a 8) (a 9) p1 p2 n (a 15) as d v) as n) i) x)) x p1 p2 (nI v) (by omega)) (cwV 4 hts gX6_move_X6_isIn rfl rfl rfl (by decide +kernel) ⟨Nat.le_of_ble_eq_true rfl, Nat.le_of_ble_eq_true rfl⟩) (va_recv hK.1 hP (ci := 6) (q0 := 0) rfl rfl) hP hK rfl hl.1 rfl (Nat.le_of_ble_eq_true rfl) dX6_move_123 ⟨Nat.zero_le _, Nat.zero_le _⟩ ?_
              refine x_ifeq (tgt := 133) hx hb dX6_move_126 (by decide) (fun c_126 => ?_) (fun c_126 => ?_)
              · have c_126 : ¬ rIn (a 7) (a 8) (a 9) x p1 p2 (nI v) := c_126
                refine lv_iconst (v := 0) hx hb dX6_move_133 (by decide) ?_
                refine lv_iadd hx hb dX6_move_134 ?_
                refine x_tp (y := (rCAdd (a 7) (a 8) (a 9) p1 p2 (nI v) (rCIt (a 7) (a 8) (a 9) p1 p2 (nI v) n (rCSet (a 7) (a 8) (a 9) p1 p2 (nI v) (rCol (a 7) (a 8) (a 9) p1 p2 n (a 15) as d v) as n) i) x) x + (if rIn (a 7) (a 8) (a 9) x p1 p2 (nI v) then 1 else 0)) (by rw [if_neg c_126]) ?_
                exact j_135 _ _ _ (lv_sub hl [0, 1, 2, 3, 4, 5] rfl) hP hD hS
              · have c_126 : rIn (a 7) (a 8) (a 9) x p1 p2 (nI v) := c_126
                refine lv_iconst (v := 1) hx hb dX6_move_129 (by decide) ?_
                refine lv_goto (tgt := 134) hx hb dX6_move_130 (by decide) ?_
                refine lv_iadd hx hb dX6_move_134 ?_
                refine x_tp (y := (rCAdd (a 7) (a 8) (a 9) p1 p2 (nI v) (rCIt (a 7) (a 8) (a 9) p1 p2 (nI v) n (rCSet (a 7) (a 8) (a 9) p1 p2 (nI v) (rCol (a 7) (a 8) (a 9) p1 p2 n (a 15) as d v) as n) i) x) x + (if rIn (a 7) (a 8) (a 9) x p1 p2 (nI v) then 1 else 0)) (by rw [if_pos c_126]) ?_
                exact j_135 _ _ _ (lv_sub hl [0, 1, 2, 3, 4, 5] rfl) hP hD hS
        · have hid : i = d v := by
            rcases Nat.lt_or_ge i (d v) with q | q
            · exact absurd (hd3 i q) c_72
            · omega
          refine lv_iconst (v := 1) hx hb dX6_move_75 (by decide) ?_
          refine lv_goto (tgt := 80) hx hb dX6_move_76 (by decide) ?_
          refine lv_istore (lv' := [(4, .int 1), (0, .ref (b 0)), (1, .int p1), (2, .int p2), (3, .int (nI v))]) hx hb dX6_move_80 hl (by decide) rfl (fun ls hl => ?_)
          refine lv_iload hx hb dX6_move_82 (lv_at hl 0 rfl) ?_
          refine lv_if_ne (tgt := 60) hx hb dX6_move_84 (by decide) (fun c_84 => ?_) (fun c_84 => ?_)
          · have hwe : mW b cA u n m (va_up (va_up a 14 (upd (rMvB (a 14) d v) v (nI i))) 15 (rCIt (a 7) (a 8) (a 9) p1 p2 (nI v) n (rCSet (a 7) (a 8) (a 9) p1 p2 (nI v) (rCol (a 7) (a 8) (a 9) p1 p2 n (a 15) as d v) as n) i)) = mW b cA u n m (va_up (va_up a 14 (rMvB (a 14) d (v + 1))) 15 (rCol (a 7) (a 8) (a 9) p1 p2 n (a 15) as d (v + 1))) := (by rw [hid]; rfl)
            rw [hwe] at hP hD
            refine lv_iload hx hb dX6_move_60 (lv_at hl 0 rfl) ?_
            refine lv_if_ne (tgt := 145) hx hb dX6_move_62 (by decide) (fun c_62 => ?_) (fun c_62 => ?_)
            · refine lv_iinc (v := nI (v + 1)) (lv' := [(3, .int (nI (v + 1))), (4, .int 1), (0, .ref (b 0)), (1, .int p1), (2, .int p2)]) hx hb dX6_move_145 hl (k := 4) rfl (x_inc v) (by decide) rfl (fun ls hl => ?_)
              refine lv_goto (tgt := 2) hx hb dX6_move_148 (by decide) ?_
              exact ihv (by omega) () _ _ _ trivial (lv_sub hl [2, 3, 4, 0] rfl) hP hD hS
            · exact absurd c_62 (by decide)
          · exact absurd c_84 (by decide)
    · refine lv_aload_n hx hb dX6_move_29 rfl (lv_at hl 0 rfl) ?_
      refine lv_iload hx hb dX6_move_30 (lv_at hl 5 rfl) ?_
      refine lv_iload_n hx hb dX6_move_32 rfl (lv_at hl 1 rfl) ?_
      refine lv_iload_n hx hb dX6_move_33 rfl (lv_at hl 2 rfl) ?_
      refine lv_iload_n hx hb dX6_move_34 rfl (lv_at hl 3 rfl) ?_
      refine rcVi (As := [.int (nI x), .int p1, .int p2, .int (nI v)]) (rest := []) ⟨hx, hb, hml, hown, hts⟩ (k6_isIn l D b cA u n m (va_up (va_up a 14 (upd (rMvB (a 14) d v) v 0)) 15 (rCSet (a 7) (a 8) (a 9) p1 p2 (nI v) (rCol (a 7) (a 8) (a 9) p1 p2 n (a 15) as d v) as x)) x p1 p2 (nI v) (by omega)) (cwV 4 hts gX6_move_X6_isIn rfl rfl rfl (by decide +kernel) ⟨Nat.le_of_ble_eq_true rfl, Nat.le_of_ble_eq_true rfl⟩) (va_recv hK.1 hP (ci := 6) (q0 := 0) rfl rfl) hP hK rfl hl.1 rfl (Nat.le_of_ble_eq_true rfl) dX6_move_35 ⟨Nat.zero_le _, Nat.zero_le _⟩ ?_
      refine x_ifeq (tgt := 54) hx hb dX6_move_38 (by decide) (fun c_38 => ?_) (fun c_38 => ?_)
      · have hwe : mW b cA u n m (va_up (va_up a 14 (upd (rMvB (a 14) d v) v 0)) 15 (rCSet (a 7) (a 8) (a 9) p1 p2 (nI v) (rCol (a 7) (a 8) (a 9) p1 p2 n (a 15) as d v) as x)) = mW b cA u n m (va_up (va_up a 14 (upd (rMvB (a 14) d v) v 0)) 15 (rCSet (a 7) (a 8) (a 9) p1 p2 (nI v) (rCol (a 7) (a 8) (a 9) p1 p2 n (a 15) as d v) as (x + 1))) := (by rw [show rCSet (a 7) (a 8) (a 9) p1 p2 (nI v) (rCol (a 7) (a 8) (a 9) p1 p2 n (a 15) as d v) as (x + 1) = rCSet (a 7) (a 8) (a 9) p1 p2 (nI v) (rCol (a 7) (a 8) (a 9) p1 p2 n (a 15) as d v) as x from if_neg c_38])
        rw [hwe] at hP hD
        refine lv_iinc (v := nI (x + 1)) (lv' := [(5, .int (nI (x + 1))), (0, .ref (b 0)), (1, .int p1), (2, .int p2), (3, .int (nI v)), (4, .int 0)]) hx hb dX6_move_54 hl (k := 5) rfl (x_inc x) (by decide) rfl (fun ls hl => ?_)
        refine lv_goto (tgt := 20) hx hb dX6_move_57 (by decide) ?_
        exact ihx (by omega) () _ _ _ trivial (lv_sub hl [1, 2, 3, 4, 5, 0] rfl) hP hD hS
      · have c_38 : rIn (a 7) (a 8) (a 9) x p1 p2 (nI v) := c_38
        obtain ⟨fx, qx, hqx, hex, hax⟩ := has x c_26 c_38.1
        have hex : rEnum (a 7) (a 8) (a 9) (a 13) n (a 7 x) (a 9 x) (a 8 x) (rUp (a 7) (a 8) (a 9) (a 13) n (a 7 x) (a 9 x) (a 8 x)) fx qx x := by rw [c_38.1.1, c_38.1.2]; exact hex
        have hax : rAsV (a 13) fx qx (rUp (a 7) (a 8) (a 9) (a 13) n (a 7 x) (a 9 x) (a 8 x)) = as x := by rw [hax, c_38.1.1, c_38.1.2]
        refine lv_aload_n hx hb dX6_move_41 rfl (lv_at hl 0 rfl) ?_
        refine va_get (D := D) (ci := 6) (v := .ref (b 15)) (C := RX6) (T := TX6) (N := 23) hx hb hts hiX60 hown hK.1 hP 0 rfl rfl 21 (by decide) f2 (fun _ h9 => h9) rfl dX6_move_42 ?_
        refine lv_iload hx hb dX6_move_45 (lv_at hl 5 rfl) ?_
        refine lv_aload_n hx hb dX6_move_47 rfl (lv_at hl 0 rfl) ?_
        refine lv_iload hx hb dX6_move_48 (lv_at hl 5 rfl) ?_
        refine rcVi (As := [.int (nI x)]) (rest := [.int (nI x), .ref (b 15)]) ⟨hx, hb, hml, hown, hts⟩ (k6_aside l D b cA u n m (va_up (va_up a 14 (upd (rMvB (a 14) d v) v 0)) 15 (rCSet (a 7) (a 8) (a 9) p1 p2 (nI v) (rCol (a 7) (a 8) (a 9) p1 p2 n (a 15) as d v) as x)) x fx qx (by omega) hqx (by omega) hex) (cwV 1 hts gX6_move_X6_aside rfl rfl rfl (by decide +kernel) ⟨Nat.le_of_ble_eq_true rfl, Nat.le_of_ble_eq_true rfl⟩) (va_recv hK.1 hP (ci := 6) (q0 := 0) rfl rfl) hP hK rfl hl.1 rfl (Nat.le_of_ble_eq_true rfl) dX6_move_50 ⟨Nat.zero_le _, Nat.zero_le _⟩ ?_
        refine x_tp (y := as x) hax ?_
        refine x_iast hx hb hK hP hD hS 15 0 rfl rfl (k := x) (by omega) (by decide) dX6_move_53 (fun H locs hP hD hS => ?_)
        have hP : va_P D vwCl (mW b cA u n m (va_up (va_up (va_up a 14 (upd (rMvB (a 14) d v) v 0)) 15 (rCSet (a 7) (a 8) (a 9) p1 p2 (nI v) (rCol (a 7) (a 8) (a 9) p1 p2 n (a 15) as d v) as x)) 15 (upd (rCSet (a 7) (a 8) (a 9) p1 p2 (nI v) (rCol (a 7) (a 8) (a 9) p1 p2 n (a 15) as d v) as x) x (as x)))) H := hP
        have hD : va_D (va_A (mW b cA u n m a) sz) (mW b cA u n m (va_up (va_up (va_up a 14 (upd (rMvB (a 14) d v) v 0)) 15 (rCSet (a 7) (a 8) (a 9) p1 p2 (nI v) (rCol (a 7) (a 8) (a 9) p1 p2 n (a 15) as d v) as x)) 15 (upd (rCSet (a 7) (a 8) (a 9) p1 p2 (nI v) (rCol (a 7) (a 8) (a 9) p1 p2 n (a 15) as d v) as x) x (as x)))) := hD
        have hwe : mW b cA u n m (va_up (va_up (va_up a 14 (upd (rMvB (a 14) d v) v 0)) 15 (rCSet (a 7) (a 8) (a 9) p1 p2 (nI v) (rCol (a 7) (a 8) (a 9) p1 p2 n (a 15) as d v) as x)) 15 (upd (rCSet (a 7) (a 8) (a 9) p1 p2 (nI v) (rCol (a 7) (a 8) (a 9) p1 p2 n (a 15) as d v) as x) x (as x))) = mW b cA u n m (va_up (va_up a 14 (upd (rMvB (a 14) d v) v 0)) 15 (rCSet (a 7) (a 8) (a 9) p1 p2 (nI v) (rCol (a 7) (a 8) (a 9) p1 p2 n (a 15) as d v) as (x + 1))) := (by rw [show rCSet (a 7) (a 8) (a 9) p1 p2 (nI v) (rCol (a 7) (a 8) (a 9) p1 p2 n (a 15) as d v) as (x + 1) = upd (rCSet (a 7) (a 8) (a 9) p1 p2 (nI v) (rCol (a 7) (a 8) (a 9) p1 p2 n (a 15) as d v) as x) x (as x) from if_pos c_38]; rfl)
        rw [hwe] at hP hD
        refine lv_iinc (v := nI (x + 1)) (lv' := [(5, .int (nI (x + 1))), (0, .ref (b 0)), (1, .int p1), (2, .int p2), (3, .int (nI v)), (4, .int 0)]) hx hb dX6_move_54 hl (k := 5) rfl (x_inc x) (by decide) rfl (fun ls hl => ?_)
        refine lv_goto (tgt := 20) hx hb dX6_move_57 (by decide) ?_
        exact ihx (by omega) () _ _ _ trivial (lv_sub hl [1, 2, 3, 4, 5, 0] rfl) hP hD hS
