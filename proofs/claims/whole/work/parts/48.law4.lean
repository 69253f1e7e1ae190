theorem head_in {L j : Nat} (hL : L ≤ 4097) (hj : j ≤ 5000) (h : ¬ Int32.ofNat L - 8 < nI j) : j + 8 ≤ L := by
  rw [Int32.lt_iff_toInt_lt] at h
  have e1 : (nI L).toInt = L := nI_toInt (by omega)
  have e2 : (nI j).toInt = j := nI_toInt (by omega)
  have e3 := sub_bd (x := nI L) (c := 8) (by omega) (by omega) (by decide) (by decide)
  have e4 : ((8 : Int32)).toInt = 8 := rfl
  have e5 : (Int32.ofNat L - 8).toInt = (nI L).toInt - (8 : Int32).toInt := e3
  omega
set_option maxHeartbeats 4000000 in
set_option maxRecDepth 100000 in
/-- the loop: i calls are done, at most d are left -/
theorem law_loop {p : Program} {l : Launch} {e : Env} {s : State} {mi : MethodId} {below : List Frame} {meth : Method} {cd : Code} {D : va_G} {c b : Nat → Nat} {cA cC cL : ClassId} {qo b0 L : Nat} {xs : Nat → Int32} {A : Nat → Prop} {zt sa : Nat} {Q : State → Prop} {k0 n0 : Nat} (C : LC p l s mi cd D cA cC cL b0 L xs A zt sa) (hk0 : k0 ≤ 560 ∧ n0 ≤ 9000) (E : ∀ i, i ≤ 512 → LH p l e s mi below meth cd D c b cA cC cL qo b0 A Q 738 (8 * i + 1) (k0 + i) (n0 + 6 * i)) : ∀ d i, i ≤ 512 → L < 8 * (i + d) + 9 → LH p l e s mi below meth cd D c b cA cC cL qo b0 A Q 33 (8 * i + 1) (k0 + i) (n0 + 6 * i) := by
  obtain ⟨hx, hb, hml, hown, hts, ⟨hX, hbl, hbA, hL⟩, hA, hK, hZ, hXK, hfl⟩ := id C
  intro d
  induction d with
  | zero =>
    intro i hi hd u n m a lo sl X f ls H locs hI hl hP hD hS
    refine lv_iload hx hb dL_law_33 (lv_at hl 4 rfl) ?_
    refine lv_aload_n hx hb dL_law_35 rfl (lv_at hl 0 rfl) ?_
    refine va_slen hx hb hX hbl hbA hS dL_law_36 ?_
    refine lv_bipush (v := 8) hx hb dL_law_37 (by decide) ?_
    refine lv_isub hx hb dL_law_39 ?_
    refine lv_icmp_gt (tgt := 738) hx hb dL_law_40 (by decide) (fun c_40 => ?_) (fun c_40 => ?_)
    · exact E i hi _ _ _ _ _ _ _ _ _ _ _ hI hl hP hD hS
    · have := head_in hL (show 8 * i + 1 ≤ 5000 by omega) c_40
      omega
  | succ d ih =>
    intro i hi hd u n m a lo sl X f ls H locs hI hl hP hD hS
    refine lv_iload hx hb dL_law_33 (lv_at hl 4 rfl) ?_
    refine lv_aload_n hx hb dL_law_35 rfl (lv_at hl 0 rfl) ?_
    refine va_slen hx hb hX hbl hbA hS dL_law_36 ?_
    refine lv_bipush (v := 8) hx hb dL_law_37 (by decide) ?_
    refine lv_isub hx hb dL_law_39 ?_
    refine lv_icmp_gt (tgt := 738) hx hb dL_law_40 (by decide) (fun c_40 => ?_) (fun c_40 => ?_)
    · exact E i hi _ _ _ _ _ _ _ _ _ _ _ hI hl hP hD hS
    · have hj := head_in hL (show 8 * i + 1 ≤ 5000 by omega) c_40
      have J : LH p l e s mi below meth cd D c b cA cC cL qo b0 A Q 732 (8 * i + 1) (k0 + i + 1) (n0 + 6 * i + 6) := by
        intro u n m a lo sl X f ls H locs hI hl hP hD hS
        refine lv_iinc (v := nI (8 * (i + 1) + 1)) (lv' := [(4, .int (nI (8 * (i + 1) + 1))), (0, .ref b0), (1, .ref (c 0)), (2, .ref (b 0)), (3, .ref qo)]) hx hb dL_law_732 hl (k := 4) rfl (by rw [show 8 * (i + 1) + 1 = 8 * i + 1 + 8 by omega]; exact nI_add (8 * i + 1) 8) (by decide) rfl (fun ls hl => ?_)
        refine lv_goto (tgt := 33) hx hb dL_law_735 (by decide) ?_
        have h9 := ih (i + 1) (by omega) (by omega) _ _ _ _ _ _ _ _ _ _ _ hI (lv_sub hl [1, 2, 3, 4, 0] rfl) hP hD hS
        exact h9
      have hk : k0 + i + 1 ≤ 1080 ∧ n0 + 6 * i + 6 ≤ 12356 := by omega
      refine lv_aload_n hx hb dL_law_43 rfl (lv_at hl 0 rfl) ?_
      refine lv_iload hx hb dL_law_44 (lv_at hl 4 rfl) ?_
      refine x_sld hx hb hX hbl hbA hS (8 * i + 1) rfl (by omega) hL dL_law_46 ?_
      refine lv_bipush (v := 15) hx hb dL_law_47 (by decide) ?_
      refine lv_iand hx hb dL_law_49 ?_
      by_cases hw_0 : xs (8 * i + 1) &&& 15 = 0
      · refine x_tp (y := 0) hw_0 ?_
        refine lv_tableIn (tgt := 124) hx hb dL_law_50 (by decide) (by decide) rfl (by decide) ?_
        exact law_clef C _ _ _ hj hk J _ _ _ _ _ _ _ _ _ _ _ hI hl hP hD hS
      by_cases hw_1 : xs (8 * i + 1) &&& 15 = 1
      · refine x_tp (y := 1) hw_1 ?_
        refine lv_tableIn (tgt := 173) hx hb dL_law_50 (by decide) (by decide) rfl (by decide) ?_
        exact law_shift C _ _ _ hj hk J _ _ _ _ _ _ _ _ _ _ _ hI hl hP hD hS
      by_cases hw_2 : xs (8 * i + 1) &&& 15 = 2
      · refine x_tp (y := 2) hw_2 ?_
        refine lv_tableIn (tgt := 234) hx hb dL_law_50 (by decide) (by decide) rfl (by decide) ?_
        exact law_plain C _ _ _ hj hk J _ _ _ _ _ _ _ _ _ _ _ hI hl hP hD hS
      by_cases hw_3 : xs (8 * i + 1) &&& 15 = 3
      · refine x_tp (y := 3) hw_3 ?_
        refine lv_tableIn (tgt := 247) hx hb dL_law_50 (by decide) (by decide) rfl (by decide) ?_
        exact law_note C _ _ _ hj hk J _ _ _ _ _ _ _ _ _ _ _ hI hl hP hD hS
      by_cases hw_4 : xs (8 * i + 1) &&& 15 = 4
      · refine x_tp (y := 4) hw_4 ?_
        refine lv_tableIn (tgt := 348) hx hb dL_law_50 (by decide) (by decide) rfl (by decide) ?_
        exact law_drop C _ _ _ hj hk J _ _ _ _ _ _ _ _ _ _ _ hI hl hP hD hS
      by_cases hw_5 : xs (8 * i + 1) &&& 15 = 5
      · refine x_tp (y := 5) hw_5 ?_
        refine lv_tableIn (tgt := 373) hx hb dL_law_50 (by decide) (by decide) rfl (by decide) ?_
        exact law_of C _ _ _ hj hk J _ _ _ _ _ _ _ _ _ _ _ hI hl hP hD hS
      by_cases hw_6 : xs (8 * i + 1) &&& 15 = 6
      · refine x_tp (y := 6) hw_6 ?_
        refine lv_tableIn (tgt := 410) hx hb dL_law_50 (by decide) (by decide) rfl (by decide) ?_
        exact law_height C _ _ _ hj hk J _ _ _ _ _ _ _ _ _ _ _ hI hl hP hD hS
      by_cases hw_7 : xs (8 * i + 1) &&& 15 = 7
      · refine x_tp (y := 7) hw_7 ?_
        refine lv_tableIn (tgt := 436) hx hb dL_law_50 (by decide) (by decide) rfl (by decide) ?_
        exact law_at C _ _ _ hj hk J _ _ _ _ _ _ _ _ _ _ _ hI hl hP hD hS
      by_cases hw_8 : xs (8 * i + 1) &&& 15 = 8
      · refine x_tp (y := 8) hw_8 ?_
        refine lv_tableIn (tgt := 485) hx hb dL_law_50 (by decide) (by decide) rfl (by decide) ?_
        exact law_shared C _ _ _ hj hk J _ _ _ _ _ _ _ _ _ _ _ hI hl hP hD hS
      by_cases hw_9 : xs (8 * i + 1) &&& 15 = 9
      · refine x_tp (y := 9) hw_9 ?_
        refine lv_tableIn (tgt := 522) hx hb dL_law_50 (by decide) (by decide) rfl (by decide) ?_
        exact law_setting C _ _ _ hj hk J _ _ _ _ _ _ _ _ _ _ _ hI hl hP hD hS
      by_cases hw_10 : xs (8 * i + 1) &&& 15 = 10
      · refine x_tp (y := 10) hw_10 ?_
        refine lv_tableIn (tgt := 559) hx hb dL_law_50 (by decide) (by decide) rfl (by decide) ?_
        exact law_hides C _ _ _ hj hk J _ _ _ _ _ _ _ _ _ _ _ hI hl hP hD hS
      by_cases hw_11 : xs (8 * i + 1) &&& 15 = 11
      · refine x_tp (y := 11) hw_11 ?_
        refine lv_tableIn (tgt := 600) hx hb dL_law_50 (by decide) (by decide) rfl (by decide) ?_
        exact law_gap C _ _ _ hj hk J _ _ _ _ _ _ _ _ _ _ _ hI hl hP hD hS
      by_cases hw_12 : xs (8 * i + 1) &&& 15 = 12
      · refine x_tp (y := 12) hw_12 ?_
        refine lv_tableIn (tgt := 625) hx hb dL_law_50 (by decide) (by decide) rfl (by decide) ?_
        exact law_place C _ _ _ hj hk J _ _ _ _ _ _ _ _ _ _ _ hI hl hP hD hS
      by_cases hw_13 : xs (8 * i + 1) &&& 15 = 13
      · refine x_tp (y := 13) hw_13 ?_
        refine lv_tableIn (tgt := 651) hx hb dL_law_50 (by decide) (by decide) rfl (by decide) ?_
        exact law_crowded C _ _ _ hj hk J _ _ _ _ _ _ _ _ _ _ _ hI hl hP hD hS
      by_cases hw_14 : xs (8 * i + 1) &&& 15 = 14
      · refine x_tp (y := 14) hw_14 ?_
        refine lv_tableIn (tgt := 707) hx hb dL_law_50 (by decide) (by decide) rfl (by decide) ?_
        exact law_about C _ _ _ hj hk J _ _ _ _ _ _ _ _ _ _ _ hI hl hP hD hS
      refine lv_tableOut (tgt := 732) hx hb dL_law_50 (sw_out (N := 14) (fun j hj => match j, hj with | 0, _ => hw_0 | 1, _ => hw_1 | 2, _ => hw_2 | 3, _ => hw_3 | 4, _ => hw_4 | 5, _ => hw_5 | 6, _ => hw_6 | 7, _ => hw_7 | 8, _ => hw_8 | 9, _ => hw_9 | 10, _ => hw_10 | 11, _ => hw_11 | 12, _ => hw_12 | 13, _ => hw_13 | 14, _ => hw_14 | k9 + 15, h9 => absurd h9 (by omega)) (by decide)) (by decide) ?_
      refine W.widen (k := k0 + i + 1) (n := n0 + 6 * i + 6) (Nat.le_succ _) (Nat.le_add_right _ _) ?_
      exact J _ _ _ _ _ _ _ _ _ _ _ hI hl hP hD hS
