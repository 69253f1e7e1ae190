theorem cr_ans {n : Nat} {a : Nat → Nat → Int32} {x : cS} {p1 : Int32} {d : Nat → Nat → Nat} (hag : okI p1 0 3 → crT x p1 = rTks (a 7) (a 8) (a 9) n p1 100 ∧ cCrd ((xL x).1 12) p1.toNatClampNeg 100 = rCrd (a 7) (a 8) (a 9) n p1 d 100) (q2 : okI p1 0 3 → ¬ crT x p1 = 0) : crA x p1 = (if okI p1 0 3 then (if rTks (a 7) (a 8) (a 9) n p1 100 = 0 then 0 else 1000 * nI (rCrd (a 7) (a 8) (a 9) n p1 d 100) / nI (rTks (a 7) (a 8) (a 9) n p1 100)) else -1001) := by
  show (if okI p1 0 3 then 1000 * nI (cCrd ((xL x).1 12) p1.toNatClampNeg 100) / nI (crT x p1) else -1001) = _
  by_cases c : okI p1 0 3
  · obtain ⟨h1, h2⟩ := hag c
    have h3 := q2 c
    rw [h1] at h3
    rw [if_pos c, if_pos c, if_neg h3, h1, h2]
  · rw [if_neg c, if_neg c]
theorem cr_th {n m : Nat} {a : Nat → Nat → Int32} {x : cS} {p1 r1 : Int32} {v : Int64} {d : Nat → Nat → Nat} (hag : okI p1 0 3 → crT x p1 = rTks (a 7) (a 8) (a 9) n p1 100 ∧ cCrd ((xL x).1 12) p1.toNatClampNeg 100 = rCrd (a 7) (a 8) (a 9) n p1 d 100) (hcr : (r1 = 1 ∧ okI p1 0 3 ∧ crT x p1 = 0 ∧ LK a n m (xL x)) ∨ (r1 = 0 ∧ (okI p1 0 3 → LK a n m (xL x) ∧ ¬ crT x p1 = 0) ∧ v = (crA x p1).toInt64)) : (if okI p1 0 3 ∧ rTks (a 7) (a 8) (a 9) n p1 100 = 0 then 1 else 0) = r1 := by
  rcases hcr with ⟨q1, q2, q3, -⟩ | ⟨q1, q2, -⟩
  · rw [if_pos ⟨q2, by rw [← (hag q2).1]; exact q3⟩, q1]
  · rw [if_neg (fun q => (q2 q.1).2 (by rw [(hag q.1).1]; exact q.2)), q1]

set_option maxHeartbeats 4000000 in
set_option maxRecDepth 100000 in
theorem law_crowded {p : Program} {l : Launch} {e : Env} {s : State} {mi : MethodId} {below : List Frame} {meth : Method} {cd : Code} {D : va_G} {c b : Nat → Nat} {cA cC cL : ClassId} {qo b0 L : Nat} {xs : Nat → Int32} {A : Nat → Prop} {zt sa : Nat} {Q : State → Prop} (C : LC p l s mi cd D cA cC cL b0 L xs A zt sa) (j k nn : Nat) (hj : j + 8 ≤ L) (hk : k + 1 ≤ 1080 ∧ nn + 6 ≤ 12356) (J : LH p l e s mi below meth cd D c b cA cC cL qo b0 A Q 732 j (k + 1) (nn + 6)) : LH p l e s mi below meth cd D c b cA cC cL qo b0 A Q 651 j k nn := by
  obtain ⟨hx, hb, hml, hown, hts, ⟨hX, hbl, hbA, hL⟩, hA, hK, hZ, hXK, hfl⟩ := C
  have hKl : kK D [(cA, .int), (cC, .object "StaffHeads$Chord")] s := ⟨hK.1.sub [0, 1] rfl, hK.2⟩
  have hK1 : kK D [(cA, .int)] s := ⟨hK.1.sub [0] rfl, hK.2⟩
  intro u n m a lo sl X f ls H locs hI hl hP hD hS
  obtain ⟨hW, hLo, hJ, hLK, hu2, hu3⟩ := id hI
  have hn : n ≤ 60 := hW.1
  have hm : m ≤ 12 := hW.2.1
  have hs4 := hs4_of hW
  refine lv_aload_n hx hb dL_law_651 rfl (lv_at hl 1 rfl) ?_
  refine lv_aload_n hx hb dL_law_652 rfl (lv_at hl 0 rfl) ?_
  refine lv_iload hx hb dL_law_653 (lv_at hl 4 rfl) ?_
  refine lv_iconst (v := 1) hx hb dL_law_655 (by decide) ?_
  refine lv_iadd hx hb dL_law_656 ?_
  refine x_sld hx hb hX hbl hbA hS (j + 1) (nI_add j 1) (by omega) hL dL_law_657 ?_
  refine lv_aload_n hx hb dL_law_658 rfl (lv_at hl 3 rfl) ?_
  refine wgi (S0 := cS × (Nat → Int64)) (wr := mW b cA u n m a) (vx_runSW (hh := [(0, 9, 12, 13)]) (As := [.ref (c 0), .int (xs (j + 1)), .ref qo]) (rest := []) ⟨hx, hb, hml, hown, hts⟩ (kL_crowded l D c cA cC cL u n m lo a sl X qo _ sa f (xs (j + 1)) hfl hW hLo hJ hLK) (vx_cwSW 3 hts gL_law_L_crowded rfl rfl rfl (by decide +kernel) ⟨Nat.le_of_ble_eq_true rfl, Nat.le_of_ble_eq_true rfl⟩) (preX hP hD hS hA hK hXK (List.range 37 ++ [54]) rfl (by decide)) rfl rfl hl.1 rfl (lv_room (Nat.le_of_ble_eq_true rfl)) dL_law_659 hk) hP hD hS hA (List.range 37 ++ [54]) (List.range' 37 17) rfl rfl (by decide) (by decide) (fun r1 x H locs hp hP hD hS => ?_)
  obtain ⟨x, f1⟩ := x
  have hP : va_P D vwCl (cX c cA cC x ++ mW b cA u n m a ++ oW qo cL f1) H := hP.sub (List.range' 17 37 ++ List.range 17 ++ [54]) rfl
  have hD : va_D A (cX c cA cC x ++ mW b cA u n m a ++ oW qo cL f1) := hD.sub (List.range' 17 37 ++ List.range 17 ++ [54]) (by decide) rfl
  have hp : crP u n m lo a (xs (j + 1)) r1 x (f1 0) := hp
  obtain ⟨⟨sl1, X1, rfl, hJ1, hLK1⟩, hcr⟩ := hp
  obtain ⟨as, d, hall, hag⟩ := ag_cr (x := (u, n, m, lo, a, sl1, X1)) hW (xs (j + 1)) (hcr.elim (fun q _ => q.2.2.2) (fun q h => (q.2.1 h).1))
  refine lv_istore (lv' := [(5, .int r1), (0, .ref b0), (1, .ref (c 0)), (2, .ref (b 0)), (3, .ref qo), (4, .int (nI j))]) hx hb dL_law_662 hl (by decide) rfl (fun ls hl => ?_)
  refine lv_aload_n hx hb dL_law_664 rfl (lv_at hl 3 rfl) ?_
  refine lv_aload_n hx hb dL_law_665 rfl (lv_at hl 1 rfl) ?_
  refine lv_iload hx hb dL_law_666 (lv_at hl 5 rfl) ?_
  refine lv_iconst (v := 1) hx hb dL_law_668 (by decide) ?_
  refine lv_iadd hx hb dL_law_669 ?_
  refine x_sld hx hb hX hbl hbA hS (j + 1) (nI_add j 1) (by omega) hL dL_law_670 ?_
  refine wcVi (S0 := mS) (wr := cX c cA cC (u, n, m, lo, a, sl1, X1) ++ oW qo cL f1) (As := [.int (xs (j + 1))]) (rest := []) ⟨hx, hb, hml, hown, hts⟩ (k6_crowded l D b cA u n m a _ (xs (j + 1)) as d hn hm hs4 hall) (cwV 1 hts gL_law_X6_crowded rfl rfl rfl (by decide +kernel) ⟨Nat.le_of_ble_eq_true rfl, Nat.le_of_ble_eq_true rfl⟩) (va_recv hK.1 hP (ci := 6) (q0 := 37) rfl rfl) hP hD hS hA hK1 (List.range' 37 17) (List.range 37 ++ [54]) rfl rfl (by decide) (by decide) (by decide) rfl hl.1 rfl (Nat.le_of_ble_eq_true rfl) dL_law_671 hk (fun r2 y H locs hp2 hP hD hS => ?_)
  have hP : va_P D vwCl (cX c cA cC (u, n, m, lo, a, sl1, X1) ++ mX b cA y ++ oW qo cL f1) H := hP.sub (List.range 37 ++ List.range' 38 17 ++ [37]) rfl
  have hD : va_D A (cX c cA cC (u, n, m, lo, a, sl1, X1) ++ mX b cA y ++ oW qo cL f1) := hD.sub (List.range 37 ++ List.range' 38 17 ++ [37]) (by decide) rfl
  obtain ⟨hr2, a1, rfl, ha1⟩ := hp2
  have hP : va_P D vwCl (cX c cA cC (u, n, m, lo, a, sl1, X1) ++ mW b cA (va_up u 0 (if okI (xs (j + 1)) 0 3 ∧ rTks (a 7) (a 8) (a 9) n (xs (j + 1)) 100 = 0 then 1 else 0)) n m a1 ++ oW qo cL f1) H := hP
  have hD : va_D A (cX c cA cC (u, n, m, lo, a, sl1, X1) ++ mW b cA (va_up u 0 (if okI (xs (j + 1)) 0 3 ∧ rTks (a 7) (a 8) (a 9) n (xs (j + 1)) 100 = 0 then 1 else 0)) n m a1 ++ oW qo cL f1) := hD
  rw [cr_th hag hcr] at hP hD
  refine lv_istore (lv' := [(6, .int r2), (5, .int r1), (0, .ref b0), (1, .ref (c 0)), (2, .ref (b 0)), (3, .ref qo), (4, .int (nI j))]) hx hb dL_law_674 hl (by decide) rfl (fun ls hl => ?_)
  refine lv_aload_n hx hb dL_law_676 rfl (lv_at hl 4 rfl) ?_
  refine rcVi (As := []) (rest := []) ⟨hx, hb, hml, hown, hts⟩ (k6_thrown l D b cA (va_up u 0 r1) n m a1) (cwV 0 hts gL_law_X6_thrown rfl rfl rfl (by decide +kernel) ⟨Nat.le_of_ble_eq_true rfl, Nat.le_of_ble_eq_true rfl⟩) (va_recv hK.1 hP (ci := 6) (q0 := 37) rfl rfl) (hP.sub (List.range' 37 17) rfl) hK1 rfl hl.1 rfl (Nat.le_of_ble_eq_true rfl) dL_law_677 hk ?_
  refine x_tp (y := r1) rfl ?_
  refine lv_iload hx hb dL_law_680 (lv_at hl 1 rfl) ?_
  refine lv_icmp_eq (tgt := 687) hx hb dL_law_682 (by decide) (fun c_682 => ?_) (fun c_682 => ?_)
  · refine lv_iload hx hb dL_law_687 (lv_at hl 1 rfl) ?_
    refine lv_if_ne (tgt := 704) hx hb dL_law_689 (by decide) (fun c_689 => ?_) (fun c_689 => ?_)
    · refine lv_goto (tgt := 732) hx hb dL_law_704 (by decide) ?_
      have e9 : cX c cA cC (u, n, m, lo, a, sl1, X1) = cX c cA cC (va_up u 0 r1, n, m, lo, a1, sl1, X1) := cX_c (up_c u r1) (fun i _ h => ha1 i h)
      rw [e9] at hP hD
      exact J _ _ _ _ _ _ _ _ _ _ _ (LI_q r1 hI ha1 hJ1 hLK1) (lv_sub hl [2, 3, 4, 5, 6] rfl) hP hD hS
    · have heq : f1 (Int32.toNatClampNeg 0) = r2.toInt64 := by
        rcases hcr with ⟨q1, _⟩ | ⟨-, q2, q3⟩
        · exact absurd (q1.symm.trans c_689) (by decide)
        · show f1 0 = _
          rw [q3, hr2, cr_ans hag (fun c => (q2 c).2)]
      refine lv_aload_n hx hb dL_law_692 rfl (lv_at hl 5 rfl) ?_
      refine lv_iconst (v := 0) hx hb dL_law_693 (by decide) ?_
      refine va_lald hx hb hK.1 hP 54 2 rfl rfl (by unfold vp_in; decide) dL_law_694 ?_
      refine lv_iload hx hb dL_law_695 (lv_at hl 0 rfl) ?_
      refine lv_i2l (v := r2.toInt64) hx hb dL_law_697 rfl ?_
      refine x_lcmp hx hb heq dL_law_698 ?_
      refine lv_if_eq (tgt := 704) hx hb dL_law_699 (by decide) (fun c_699 => ?_) (fun c_699 => ?_)
      · refine lv_goto (tgt := 732) hx hb dL_law_704 (by decide) ?_
        have e9 : cX c cA cC (u, n, m, lo, a, sl1, X1) = cX c cA cC (va_up u 0 r1, n, m, lo, a1, sl1, X1) := cX_c (up_c u r1) (fun i _ h => ha1 i h)
        rw [e9] at hP hD
        exact J _ _ _ _ _ _ _ _ _ _ _ (LI_q r1 hI ha1 hJ1 hLK1) (lv_sub hl [2, 3, 4, 5, 6] rfl) hP hD hS
      · exact absurd rfl c_699
  · exact absurd rfl c_682
