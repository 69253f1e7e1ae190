set_option maxHeartbeats 4000000 in
set_option maxRecDepth 100000 in
theorem law_of {p : Program} {l : Launch} {e : Env} {s : State} {mi : MethodId} {below : List Frame} {meth : Method} {cd : Code} {D : va_G} {c b : Nat → Nat} {cA cC cL : ClassId} {qo b0 L : Nat} {xs : Nat → Int32} {A : Nat → Prop} {zt sa : Nat} {Q : State → Prop} (C : LC p l s mi cd D cA cC cL b0 L xs A zt sa) (j k nn : Nat) (hj : j + 8 ≤ L) (hk : k + 1 ≤ 1080 ∧ nn + 6 ≤ 12356) (J : LH p l e s mi below meth cd D c b cA cC cL qo b0 A Q 732 j (k + 1) (nn + 6)) : LH p l e s mi below meth cd D c b cA cC cL qo b0 A Q 373 j k nn := by
  obtain ⟨hx, hb, hml, hown, hts, ⟨hX, hbl, hbA, hL⟩, hA, hK, hZ, hXK, hfl⟩ := C
  have hKl : kK D [(cA, .int), (cC, .object "StaffHeads$Chord")] s := ⟨hK.1.sub [0, 1] rfl, hK.2⟩
  have hK1 : kK D [(cA, .int)] s := ⟨hK.1.sub [0] rfl, hK.2⟩
  intro u n m a lo sl X f ls H locs hI hl hP hD hS
  obtain ⟨hW, hLo, hJ, hLK, hu2, hu3⟩ := id hI
  have hn : n ≤ 60 := hW.1
  have hm : m ≤ 12 := hW.2.1
  have hs4 := hs4_of hW
  refine W.widen (k := k + 1) (n := nn + 6) (Nat.le_succ _) (Nat.le_add_right _ _) ?_
  refine lv_aload_n hx hb dL_law_373 rfl (lv_at hl 1 rfl) ?_
  refine lv_aload_n hx hb dL_law_374 rfl (lv_at hl 0 rfl) ?_
  refine lv_iload hx hb dL_law_375 (lv_at hl 4 rfl) ?_
  refine lv_iconst (v := 1) hx hb dL_law_377 (by decide) ?_
  refine lv_iadd hx hb dL_law_378 ?_
  refine x_sld hx hb hX hbl hbA hS (j + 1) (nI_add j 1) (by omega) hL dL_law_379 ?_
  refine lv_aload_n hx hb dL_law_380 rfl (lv_at hl 0 rfl) ?_
  refine lv_iload hx hb dL_law_381 (lv_at hl 4 rfl) ?_
  refine lv_iconst (v := 2) hx hb dL_law_383 (by decide) ?_
  refine lv_iadd hx hb dL_law_384 ?_
  refine x_sld hx hb hX hbl hbA hS (j + 2) (nI_add j 2) (by omega) hL dL_law_385 ?_
  refine wcVi (S0 := cS) (wr := mW b cA u n m a ++ oW qo cL f) (As := [.int (xs (j + 1)), .int (xs (j + 2))]) (rest := []) ⟨hx, hb, hml, hown, hts⟩ (k5_of l D c cA cC u n m lo a sl X _ (xs (j + 1)) (xs (j + 2)) hW hLo hJ hLK) (cwV 2 hts gL_law_X5_of rfl rfl rfl (by decide +kernel) ⟨Nat.le_of_ble_eq_true rfl, Nat.le_of_ble_eq_true rfl⟩) (va_recv hK.1 hP (ci := 5) (q0 := 0) rfl rfl) hP hD hS hA hKl (List.range 37) (List.range' 37 18) rfl rfl (by decide) (by decide) (by decide) rfl hl.1 rfl (Nat.le_of_ble_eq_true rfl) dL_law_386 hk (fun r1 x H locs hp hP hD hS => ?_)
  have hP : va_P D vwCl (cX c cA cC x ++ mW b cA u n m a ++ oW qo cL f) H := hP.sub (List.range' 18 37 ++ List.range 18) rfl
  have hD : va_D A (cX c cA cC x ++ mW b cA u n m a ++ oW qo cL f) := hD.sub (List.range' 18 37 ++ List.range 18) (by decide) rfl
  obtain ⟨hr1, hlk1, sl1, X1, rfl, hJ1, hLK1⟩ := hp
  obtain ⟨kk, vv, as, d, g, r9, hkk, hvv, has, hmv, hsg, hag⟩ := ag_of (X := X1) hW (xs (j + 1)) (xs (j + 2)) hlk1
  refine lv_aload_n hx hb dL_law_389 rfl (lv_at hl 2 rfl) ?_
  refine lv_aload_n hx hb dL_law_390 rfl (lv_at hl 0 rfl) ?_
  refine lv_iload hx hb dL_law_391 (lv_at hl 4 rfl) ?_
  refine lv_iconst (v := 1) hx hb dL_law_393 (by decide) ?_
  refine lv_iadd hx hb dL_law_394 ?_
  refine x_sld hx hb hX hbl hbA hS (j + 1) (nI_add j 1) (by omega) hL dL_law_395 ?_
  refine lv_aload_n hx hb dL_law_396 rfl (lv_at hl 0 rfl) ?_
  refine lv_iload hx hb dL_law_397 (lv_at hl 4 rfl) ?_
  refine lv_iconst (v := 2) hx hb dL_law_399 (by decide) ?_
  refine lv_iadd hx hb dL_law_400 ?_
  refine x_sld hx hb hX hbl hbA hS (j + 2) (nI_add j 2) (by omega) hL dL_law_401 ?_
  refine wcVi (S0 := mS) (wr := cX c cA cC (u, n, m, lo, a, sl1, X1) ++ oW qo cL f) (As := [.int (xs (j + 1)), .int (xs (j + 2))]) (rest := [.int r1]) ⟨hx, hb, hml, hown, hts⟩ (k6_of l D b cA u n m a _ (xs (j + 1)) (xs (j + 2)) kk vv as d g r9 hn hm hs4 hkk hvv has hmv hsg) (cwV 2 hts gL_law_X6_of rfl rfl rfl (by decide +kernel) ⟨Nat.le_of_ble_eq_true rfl, Nat.le_of_ble_eq_true rfl⟩) (va_recv hK.1 hP (ci := 6) (q0 := 37) rfl rfl) hP hD hS hA hK1 (List.range' 37 17) (List.range 37 ++ [54]) rfl rfl (by decide) (by decide) (by decide) rfl hl.1 rfl (Nat.le_of_ble_eq_true rfl) dL_law_402 hk (fun r2 y H locs hp2 hP hD hS => ?_)
  have hP : va_P D vwCl (cX c cA cC (u, n, m, lo, a, sl1, X1) ++ mX b cA y ++ oW qo cL f) H := hP.sub (List.range 37 ++ List.range' 38 17 ++ [37]) rfl
  have hD : va_D A (cX c cA cC (u, n, m, lo, a, sl1, X1) ++ mX b cA y ++ oW qo cL f) := hD.sub (List.range 37 ++ List.range' 38 17 ++ [37]) (by decide) rfl
  obtain ⟨hr2, a1, rfl, ha1⟩ := hp2
  have heq : r1 = r2 := hr1.trans (hag.trans hr2.symm)
  refine lv_icmp_eq (tgt := 732) hx hb dL_law_405 (by decide) (fun c_405 => ?_) (fun c_405 => ?_)
  · have e9 : cX c cA cC (u, n, m, lo, a, sl1, X1) = cX c cA cC (va_up u 0 0, n, m, lo, a1, sl1, X1) := cX_c (up_c u 0) (fun i _ h => ha1 i h)
    rw [e9] at hP hD
    exact J _ _ _ _ _ _ _ _ _ _ _ (LI_q 0 hI ha1 hJ1 hLK1) (lv_sub hl [0, 1, 2, 3, 4] rfl) hP hD hS
  · exact absurd heq c_405

set_option maxHeartbeats 4000000 in
set_option maxRecDepth 100000 in
theorem law_height {p : Program} {l : Launch} {e : Env} {s : State} {mi : MethodId} {below : List Frame} {meth : Method} {cd : Code} {D : va_G} {c b : Nat → Nat} {cA cC cL : ClassId} {qo b0 L : Nat} {xs : Nat → Int32} {A : Nat → Prop} {zt sa : Nat} {Q : State → Prop} (C : LC p l s mi cd D cA cC cL b0 L xs A zt sa) (j k nn : Nat) (hj : j + 8 ≤ L) (hk : k + 1 ≤ 1080 ∧ nn + 6 ≤ 12356) (J : LH p l e s mi below meth cd D c b cA cC cL qo b0 A Q 732 j (k + 1) (nn + 6)) : LH p l e s mi below meth cd D c b cA cC cL qo b0 A Q 410 j k nn := by
  obtain ⟨hx, hb, hml, hown, hts, ⟨hX, hbl, hbA, hL⟩, hA, hK, hZ, hXK, hfl⟩ := C
  have hKl : kK D [(cA, .int), (cC, .object "StaffHeads$Chord")] s := ⟨hK.1.sub [0, 1] rfl, hK.2⟩
  have hK1 : kK D [(cA, .int)] s := ⟨hK.1.sub [0] rfl, hK.2⟩
  intro u n m a lo sl X f ls H locs hI hl hP hD hS
  obtain ⟨hW, hLo, hJ, hLK, hu2, hu3⟩ := id hI
  have hn : n ≤ 60 := hW.1
  have hm : m ≤ 12 := hW.2.1
  have hs4 := hs4_of hW
  refine W.widen (k := k + 1) (n := nn + 6) (Nat.le_succ _) (Nat.le_add_right _ _) ?_
  refine lv_aload_n hx hb dL_law_410 rfl (lv_at hl 1 rfl) ?_
  refine lv_aload_n hx hb dL_law_411 rfl (lv_at hl 0 rfl) ?_
  refine lv_iload hx hb dL_law_412 (lv_at hl 4 rfl) ?_
  refine lv_iconst (v := 1) hx hb dL_law_414 (by decide) ?_
  refine lv_iadd hx hb dL_law_415 ?_
  refine x_sld hx hb hX hbl hbA hS (j + 1) (nI_add j 1) (by omega) hL dL_law_416 ?_
  refine wcVl (S0 := cS) (wr := mW b cA u n m a ++ oW qo cL f) (As := [.int (xs (j + 1))]) (rest := []) ⟨hx, hb, hml, hown, hts⟩ (k5_height l D c cA cC u n m lo a sl X _ (xs (j + 1)) hW hLo hJ hLK) (cwV 1 hts gL_law_X5_height rfl rfl rfl (by decide +kernel) ⟨Nat.le_of_ble_eq_true rfl, Nat.le_of_ble_eq_true rfl⟩) (va_recv hK.1 hP (ci := 5) (q0 := 0) rfl rfl) hP hD hS hA hKl (List.range 37) (List.range' 37 18) rfl rfl (by decide) (by decide) (by decide) rfl hl.1 rfl (Nat.le_of_ble_eq_true rfl) dL_law_417 hk (fun r1 x H locs hp hP hD hS => ?_)
  have hP : va_P D vwCl (cX c cA cC x ++ mW b cA u n m a ++ oW qo cL f) H := hP.sub (List.range' 18 37 ++ List.range 18) rfl
  have hD : va_D A (cX c cA cC x ++ mW b cA u n m a ++ oW qo cL f) := hD.sub (List.range' 18 37 ++ List.range 18) (by decide) rfl
  obtain ⟨hr1, hlk1, sl1, X1, rfl, hJ1, hLK1⟩ := hp
  refine lv_aload_n hx hb dL_law_420 rfl (lv_at hl 2 rfl) ?_
  refine lv_aload_n hx hb dL_law_421 rfl (lv_at hl 0 rfl) ?_
  refine lv_iload hx hb dL_law_422 (lv_at hl 4 rfl) ?_
  refine lv_iconst (v := 1) hx hb dL_law_424 (by decide) ?_
  refine lv_iadd hx hb dL_law_425 ?_
  refine x_sld hx hb hX hbl hbA hS (j + 1) (nI_add j 1) (by omega) hL dL_law_426 ?_
  refine wcVl (S0 := mS) (wr := cX c cA cC (u, n, m, lo, a, sl1, X1) ++ oW qo cL f) (As := [.int (xs (j + 1))]) (rest := [.long r1]) ⟨hx, hb, hml, hown, hts⟩ (k6_height l D b cA u n m a _ (xs (j + 1)) hn hm hs4) (cwV 1 hts gL_law_X6_height rfl rfl rfl (by decide +kernel) ⟨Nat.le_of_ble_eq_true rfl, Nat.le_of_ble_eq_true rfl⟩) (va_recv hK.1 hP (ci := 6) (q0 := 37) rfl rfl) hP hD hS hA hK1 (List.range' 37 17) (List.range 37 ++ [54]) rfl rfl (by decide) (by decide) (by decide) rfl hl.1 rfl (Nat.le_of_ble_eq_true rfl) dL_law_427 hk (fun r2 y H locs hp2 hP hD hS => ?_)
  have hP : va_P D vwCl (cX c cA cC (u, n, m, lo, a, sl1, X1) ++ mX b cA y ++ oW qo cL f) H := hP.sub (List.range 37 ++ List.range' 38 17 ++ [37]) rfl
  have hD : va_D A (cX c cA cC (u, n, m, lo, a, sl1, X1) ++ mX b cA y ++ oW qo cL f) := hD.sub (List.range 37 ++ List.range' 38 17 ++ [37]) (by decide) rfl
  obtain ⟨hr2, a1, rfl, ha1⟩ := hp2
  have heq : r1 = r2 := hr1.trans ((ag_he (X := X1) hW hu2 hu3 (xs (j + 1)) hlk1).trans hr2.symm)
  refine x_lcmp hx hb heq dL_law_430 ?_
  refine lv_if_eq (tgt := 732) hx hb dL_law_431 (by decide) (fun c_431 => ?_) (fun c_431 => ?_)
  · have e9 : cX c cA cC (u, n, m, lo, a, sl1, X1) = cX c cA cC (va_up u 0 0, n, m, lo, a1, sl1, X1) := cX_c (up_c u 0) (fun i _ h => ha1 i h)
    rw [e9] at hP hD
    exact J _ _ _ _ _ _ _ _ _ _ _ (LI_q 0 hI ha1 hJ1 hLK1) (lv_sub hl [0, 1, 2, 3, 4] rfl) hP hD hS
  · exact absurd rfl c_431

set_option maxHeartbeats 4000000 in
set_option maxRecDepth 100000 in
theorem law_at {p : Program} {l : Launch} {e : Env} {s : State} {mi : MethodId} {below : List Frame} {meth : Method} {cd : Code} {D : va_G} {c b : Nat → Nat} {cA cC cL : ClassId} {qo b0 L : Nat} {xs : Nat → Int32} {A : Nat → Prop} {zt sa : Nat} {Q : State → Prop} (C : LC p l s mi cd D cA cC cL b0 L xs A zt sa) (j k nn : Nat) (hj : j + 8 ≤ L) (hk : k + 1 ≤ 1080 ∧ nn + 6 ≤ 12356) (J : LH p l e s mi below meth cd D c b cA cC cL qo b0 A Q 732 j (k + 1) (nn + 6)) : LH p l e s mi below meth cd D c b cA cC cL qo b0 A Q 436 j k nn := by
  obtain ⟨hx, hb, hml, hown, hts, ⟨hX, hbl, hbA, hL⟩, hA, hK, hZ, hXK, hfl⟩ := C
  have hKl : kK D [(cA, .int), (cC, .object "StaffHeads$Chord")] s := ⟨hK.1.sub [0, 1] rfl, hK.2⟩
  have hK1 : kK D [(cA, .int)] s := ⟨hK.1.sub [0] rfl, hK.2⟩
  intro u n m a lo sl X f ls H locs hI hl hP hD hS
  obtain ⟨hW, hLo, hJ, hLK, hu2, hu3⟩ := id hI
  have hn : n ≤ 60 := hW.1
  have hm : m ≤ 12 := hW.2.1
  have hs4 := hs4_of hW
  refine W.widen (k := k + 1) (n := nn + 6) (Nat.le_succ _) (Nat.le_add_right _ _) ?_
  refine lv_aload_n hx hb dL_law_436 rfl (lv_at hl 1 rfl) ?_
  refine lv_aload_n hx hb dL_law_437 rfl (lv_at hl 0 rfl) ?_
  refine lv_iload hx hb dL_law_438 (lv_at hl 4 rfl) ?_
  refine lv_iconst (v := 1) hx hb dL_law_440 (by decide) ?_
  refine lv_iadd hx hb dL_law_441 ?_
  refine x_sld hx hb hX hbl hbA hS (j + 1) (nI_add j 1) (by omega) hL dL_law_442 ?_
  refine lv_aload_n hx hb dL_law_443 rfl (lv_at hl 0 rfl) ?_
  refine lv_iload hx hb dL_law_444 (lv_at hl 4 rfl) ?_
  refine lv_iconst (v := 2) hx hb dL_law_446 (by decide) ?_
  refine lv_iadd hx hb dL_law_447 ?_
  refine x_sld hx hb hX hbl hbA hS (j + 2) (nI_add j 2) (by omega) hL dL_law_448 ?_
  refine lv_aload_n hx hb dL_law_449 rfl (lv_at hl 0 rfl) ?_
  refine lv_iload hx hb dL_law_450 (lv_at hl 4 rfl) ?_
  refine lv_iconst (v := 3) hx hb dL_law_452 (by decide) ?_
  refine lv_iadd hx hb dL_law_453 ?_
  refine x_sld hx hb hX hbl hbA hS (j + 3) (nI_add j 3) (by omega) hL dL_law_454 ?_
  refine wcVi (S0 := cS) (wr := mW b cA u n m a ++ oW qo cL f) (As := [.int (xs (j + 1)), .int (xs (j + 2)), .int (xs (j + 3))]) (rest := []) ⟨hx, hb, hml, hown, hts⟩ (k5_at l D c cA cC u n m lo a sl X _ (xs (j + 1)) (xs (j + 2)) (xs (j + 3)) hW hLo hJ hLK) (cwV 3 hts gL_law_X5_at rfl rfl rfl (by decide +kernel) ⟨Nat.le_of_ble_eq_true rfl, Nat.le_of_ble_eq_true rfl⟩) (va_recv hK.1 hP (ci := 5) (q0 := 0) rfl rfl) hP hD hS hA hKl (List.range 37) (List.range' 37 18) rfl rfl (by decide) (by decide) (by decide) rfl hl.1 rfl (Nat.le_of_ble_eq_true rfl) dL_law_455 hk (fun r1 x H locs hp hP hD hS => ?_)
  have hP : va_P D vwCl (cX c cA cC x ++ mW b cA u n m a ++ oW qo cL f) H := hP.sub (List.range' 18 37 ++ List.range 18) rfl
  have hD : va_D A (cX c cA cC x ++ mW b cA u n m a ++ oW qo cL f) := hD.sub (List.range' 18 37 ++ List.range 18) (by decide) rfl
  obtain ⟨hr1, hlk1, sl1, X1, rfl, hJ1, hLK1⟩ := hp
  obtain ⟨g, r9, hsg, hag⟩ := ag_at (X := X1) hW (xs (j + 1)) (xs (j + 2)) (xs (j + 3)) hlk1
  refine lv_aload_n hx hb dL_law_458 rfl (lv_at hl 2 rfl) ?_
  refine lv_aload_n hx hb dL_law_459 rfl (lv_at hl 0 rfl) ?_
  refine lv_iload hx hb dL_law_460 (lv_at hl 4 rfl) ?_
  refine lv_iconst (v := 1) hx hb dL_law_462 (by decide) ?_
  refine lv_iadd hx hb dL_law_463 ?_
  refine x_sld hx hb hX hbl hbA hS (j + 1) (nI_add j 1) (by omega) hL dL_law_464 ?_
  refine lv_aload_n hx hb dL_law_465 rfl (lv_at hl 0 rfl) ?_
  refine lv_iload hx hb dL_law_466 (lv_at hl 4 rfl) ?_
  refine lv_iconst (v := 2) hx hb dL_law_468 (by decide) ?_
  refine lv_iadd hx hb dL_law_469 ?_
  refine x_sld hx hb hX hbl hbA hS (j + 2) (nI_add j 2) (by omega) hL dL_law_470 ?_
  refine lv_aload_n hx hb dL_law_471 rfl (lv_at hl 0 rfl) ?_
  refine lv_iload hx hb dL_law_472 (lv_at hl 4 rfl) ?_
  refine lv_iconst (v := 3) hx hb dL_law_474 (by decide) ?_
  refine lv_iadd hx hb dL_law_475 ?_
  refine x_sld hx hb hX hbl hbA hS (j + 3) (nI_add j 3) (by omega) hL dL_law_476 ?_
  refine wcVi (S0 := mS) (wr := cX c cA cC (u, n, m, lo, a, sl1, X1) ++ oW qo cL f) (As := [.int (xs (j + 1)), .int (xs (j + 2)), .int (xs (j + 3))]) (rest := [.int r1]) ⟨hx, hb, hml, hown, hts⟩ (k6_at l D b cA u n m a _ (xs (j + 1)) (xs (j + 2)) (xs (j + 3)) g r9 hn hm hs4 hsg) (cwV 3 hts gL_law_X6_at rfl rfl rfl (by decide +kernel) ⟨Nat.le_of_ble_eq_true rfl, Nat.le_of_ble_eq_true rfl⟩) (va_recv hK.1 hP (ci := 6) (q0 := 37) rfl rfl) hP hD hS hA hK1 (List.range' 37 17) (List.range 37 ++ [54]) rfl rfl (by decide) (by decide) (by decide) rfl hl.1 rfl (Nat.le_of_ble_eq_true rfl) dL_law_477 hk (fun r2 y H locs hp2 hP hD hS => ?_)
  have hP : va_P D vwCl (cX c cA cC (u, n, m, lo, a, sl1, X1) ++ mX b cA y ++ oW qo cL f) H := hP.sub (List.range 37 ++ List.range' 38 17 ++ [37]) rfl
  have hD : va_D A (cX c cA cC (u, n, m, lo, a, sl1, X1) ++ mX b cA y ++ oW qo cL f) := hD.sub (List.range 37 ++ List.range' 38 17 ++ [37]) (by decide) rfl
  obtain ⟨hr2, a1, rfl, ha1⟩ := hp2
  have heq : r1 = r2 := hr1.trans (hag.trans hr2.symm)
  refine lv_icmp_eq (tgt := 732) hx hb dL_law_480 (by decide) (fun c_480 => ?_) (fun c_480 => ?_)
  · have e9 : cX c cA cC (u, n, m, lo, a, sl1, X1) = cX c cA cC (va_up u 0 0, n, m, lo, a1, sl1, X1) := cX_c (up_c u 0) (fun i _ h => ha1 i h)
    rw [e9] at hP hD
    exact J _ _ _ _ _ _ _ _ _ _ _ (LI_q 0 hI ha1 hJ1 hLK1) (lv_sub hl [0, 1, 2, 3, 4] rfl) hP hD hS
  · exact absurd heq c_480

set_option maxHeartbeats 4000000 in
set_option maxRecDepth 100000 in
theorem law_shared {p : Program} {l : Launch} {e : Env} {s : State} {mi : MethodId} {below : List Frame} {meth : Method} {cd : Code} {D : va_G} {c b : Nat → Nat} {cA cC cL : ClassId} {qo b0 L : Nat} {xs : Nat → Int32} {A : Nat → Prop} {zt sa : Nat} {Q : State → Prop} (C : LC p l s mi cd D cA cC cL b0 L xs A zt sa) (j k nn : Nat) (hj : j + 8 ≤ L) (hk : k + 1 ≤ 1080 ∧ nn + 6 ≤ 12356) (J : LH p l e s mi below meth cd D c b cA cC cL qo b0 A Q 732 j (k + 1) (nn + 6)) : LH p l e s mi below meth cd D c b cA cC cL qo b0 A Q 485 j k nn := by
  obtain ⟨hx, hb, hml, hown, hts, ⟨hX, hbl, hbA, hL⟩, hA, hK, hZ, hXK, hfl⟩ := C
  have hKl : kK D [(cA, .int), (cC, .object "StaffHeads$Chord")] s := ⟨hK.1.sub [0, 1] rfl, hK.2⟩
  have hK1 : kK D [(cA, .int)] s := ⟨hK.1.sub [0] rfl, hK.2⟩
  intro u n m a lo sl X f ls H locs hI hl hP hD hS
  obtain ⟨hW, hLo, hJ, hLK, hu2, hu3⟩ := id hI
  have hn : n ≤ 60 := hW.1
  have hm : m ≤ 12 := hW.2.1
  have hs4 := hs4_of hW
  refine W.widen (k := k + 1) (n := nn + 6) (Nat.le_succ _) (Nat.le_add_right _ _) ?_
  refine lv_aload_n hx hb dL_law_485 rfl (lv_at hl 1 rfl) ?_
  refine lv_aload_n hx hb dL_law_486 rfl (lv_at hl 0 rfl) ?_
  refine lv_iload hx hb dL_law_487 (lv_at hl 4 rfl) ?_
  refine lv_iconst (v := 1) hx hb dL_law_489 (by decide) ?_
  refine lv_iadd hx hb dL_law_490 ?_
  refine x_sld hx hb hX hbl hbA hS (j + 1) (nI_add j 1) (by omega) hL dL_law_491 ?_
  refine lv_aload_n hx hb dL_law_492 rfl (lv_at hl 0 rfl) ?_
  refine lv_iload hx hb dL_law_493 (lv_at hl 4 rfl) ?_
  refine lv_iconst (v := 2) hx hb dL_law_495 (by decide) ?_
  refine lv_iadd hx hb dL_law_496 ?_
  refine x_sld hx hb hX hbl hbA hS (j + 2) (nI_add j 2) (by omega) hL dL_law_497 ?_
  refine wcVi (S0 := cS) (wr := mW b cA u n m a ++ oW qo cL f) (As := [.int (xs (j + 1)), .int (xs (j + 2))]) (rest := []) ⟨hx, hb, hml, hown, hts⟩ (k5_shared l D c cA cC u n m lo a sl X _ (xs (j + 1)) (xs (j + 2)) hW hLo hJ hLK) (cwV 2 hts gL_law_X5_shared rfl rfl rfl (by decide +kernel) ⟨Nat.le_of_ble_eq_true rfl, Nat.le_of_ble_eq_true rfl⟩) (va_recv hK.1 hP (ci := 5) (q0 := 0) rfl rfl) hP hD hS hA hKl (List.range 37) (List.range' 37 18) rfl rfl (by decide) (by decide) (by decide) rfl hl.1 rfl (Nat.le_of_ble_eq_true rfl) dL_law_498 hk (fun r1 x H locs hp hP hD hS => ?_)
  have hP : va_P D vwCl (cX c cA cC x ++ mW b cA u n m a ++ oW qo cL f) H := hP.sub (List.range' 18 37 ++ List.range 18) rfl
  have hD : va_D A (cX c cA cC x ++ mW b cA u n m a ++ oW qo cL f) := hD.sub (List.range' 18 37 ++ List.range 18) (by decide) rfl
  obtain ⟨hr1, hlk1, sl1, X1, rfl, hJ1, hLK1⟩ := hp
  refine lv_aload_n hx hb dL_law_501 rfl (lv_at hl 2 rfl) ?_
  refine lv_aload_n hx hb dL_law_502 rfl (lv_at hl 0 rfl) ?_
  refine lv_iload hx hb dL_law_503 (lv_at hl 4 rfl) ?_
  refine lv_iconst (v := 1) hx hb dL_law_505 (by decide) ?_
  refine lv_iadd hx hb dL_law_506 ?_
  refine x_sld hx hb hX hbl hbA hS (j + 1) (nI_add j 1) (by omega) hL dL_law_507 ?_
  refine lv_aload_n hx hb dL_law_508 rfl (lv_at hl 0 rfl) ?_
  refine lv_iload hx hb dL_law_509 (lv_at hl 4 rfl) ?_
  refine lv_iconst (v := 2) hx hb dL_law_511 (by decide) ?_
  refine lv_iadd hx hb dL_law_512 ?_
  refine x_sld hx hb hX hbl hbA hS (j + 2) (nI_add j 2) (by omega) hL dL_law_513 ?_
  refine wcVi (S0 := mS) (wr := cX c cA cC (u, n, m, lo, a, sl1, X1) ++ oW qo cL f) (As := [.int (xs (j + 1)), .int (xs (j + 2))]) (rest := [.int r1]) ⟨hx, hb, hml, hown, hts⟩ (k6_shared l D b cA u n m a _ (xs (j + 1)) (xs (j + 2)) hn hm hs4) (cwV 2 hts gL_law_X6_shared rfl rfl rfl (by decide +kernel) ⟨Nat.le_of_ble_eq_true rfl, Nat.le_of_ble_eq_true rfl⟩) (va_recv hK.1 hP (ci := 6) (q0 := 37) rfl rfl) hP hD hS hA hK1 (List.range' 37 17) (List.range 37 ++ [54]) rfl rfl (by decide) (by decide) (by decide) rfl hl.1 rfl (Nat.le_of_ble_eq_true rfl) dL_law_514 hk (fun r2 y H locs hp2 hP hD hS => ?_)
  have hP : va_P D vwCl (cX c cA cC (u, n, m, lo, a, sl1, X1) ++ mX b cA y ++ oW qo cL f) H := hP.sub (List.range 37 ++ List.range' 38 17 ++ [37]) rfl
  have hD : va_D A (cX c cA cC (u, n, m, lo, a, sl1, X1) ++ mX b cA y ++ oW qo cL f) := hD.sub (List.range 37 ++ List.range' 38 17 ++ [37]) (by decide) rfl
  obtain ⟨hr2, a1, rfl, ha1⟩ := hp2
  have heq : r1 = r2 := hr1.trans ((ag_sh (X := X1) hW (xs (j + 1)) (xs (j + 2)) hlk1).trans hr2.symm)
  refine lv_icmp_eq (tgt := 732) hx hb dL_law_517 (by decide) (fun c_517 => ?_) (fun c_517 => ?_)
  · have e9 : cX c cA cC (u, n, m, lo, a, sl1, X1) = cX c cA cC (va_up u 0 0, n, m, lo, a1, sl1, X1) := cX_c (up_c u 0) (fun i _ h => ha1 i h)
    rw [e9] at hP hD
    exact J _ _ _ _ _ _ _ _ _ _ _ (LI_q 0 hI ha1 hJ1 hLK1) (lv_sub hl [0, 1, 2, 3, 4] rfl) hP hD hS
  · exact absurd heq c_517

set_option maxHeartbeats 4000000 in
set_option maxRecDepth 100000 in
theorem law_gap {p : Program} {l : Launch} {e : Env} {s : State} {mi : MethodId} {below : List Frame} {meth : Method} {cd : Code} {D : va_G} {c b : Nat → Nat} {cA cC cL : ClassId} {qo b0 L : Nat} {xs : Nat → Int32} {A : Nat → Prop} {zt sa : Nat} {Q : State → Prop} (C : LC p l s mi cd D cA cC cL b0 L xs A zt sa) (j k nn : Nat) (hj : j + 8 ≤ L) (hk : k + 1 ≤ 1080 ∧ nn + 6 ≤ 12356) (J : LH p l e s mi below meth cd D c b cA cC cL qo b0 A Q 732 j (k + 1) (nn + 6)) : LH p l e s mi below meth cd D c b cA cC cL qo b0 A Q 600 j k nn := by
  obtain ⟨hx, hb, hml, hown, hts, ⟨hX, hbl, hbA, hL⟩, hA, hK, hZ, hXK, hfl⟩ := C
  have hKl : kK D [(cA, .int), (cC, .object "StaffHeads$Chord")] s := ⟨hK.1.sub [0, 1] rfl, hK.2⟩
  have hK1 : kK D [(cA, .int)] s := ⟨hK.1.sub [0] rfl, hK.2⟩
  intro u n m a lo sl X f ls H locs hI hl hP hD hS
  obtain ⟨hW, hLo, hJ, hLK, hu2, hu3⟩ := id hI
  have hn : n ≤ 60 := hW.1
  have hm : m ≤ 12 := hW.2.1
  have hs4 := hs4_of hW
  refine W.widen (k := k + 1) (n := nn + 6) (Nat.le_succ _) (Nat.le_add_right _ _) ?_
  refine lv_aload_n hx hb dL_law_600 rfl (lv_at hl 1 rfl) ?_
  refine lv_aload_n hx hb dL_law_601 rfl (lv_at hl 0 rfl) ?_
  refine lv_iload hx hb dL_law_602 (lv_at hl 4 rfl) ?_
  refine lv_iconst (v := 1) hx hb dL_law_604 (by decide) ?_
  refine lv_iadd hx hb dL_law_605 ?_
  refine x_sld hx hb hX hbl hbA hS (j + 1) (nI_add j 1) (by omega) hL dL_law_606 ?_
  refine wcVi (S0 := cS) (wr := mW b cA u n m a ++ oW qo cL f) (As := [.int (xs (j + 1))]) (rest := []) ⟨hx, hb, hml, hown, hts⟩ (k5_gap l D c cA cC u n m lo a sl X _ (xs (j + 1)) hW hLo hJ hLK) (cwV 1 hts gL_law_X5_gap rfl rfl rfl (by decide +kernel) ⟨Nat.le_of_ble_eq_true rfl, Nat.le_of_ble_eq_true rfl⟩) (va_recv hK.1 hP (ci := 5) (q0 := 0) rfl rfl) hP hD hS hA hKl (List.range 37) (List.range' 37 18) rfl rfl (by decide) (by decide) (by decide) rfl hl.1 rfl (Nat.le_of_ble_eq_true rfl) dL_law_607 hk (fun r1 x H locs hp hP hD hS => ?_)
  have hP : va_P D vwCl (cX c cA cC x ++ mW b cA u n m a ++ oW qo cL f) H := hP.sub (List.range' 18 37 ++ List.range 18) rfl
  have hD : va_D A (cX c cA cC x ++ mW b cA u n m a ++ oW qo cL f) := hD.sub (List.range' 18 37 ++ List.range 18) (by decide) rfl
  obtain ⟨hr1, hlk1, sl1, X1, rfl, hJ1, hLK1⟩ := hp
  refine lv_aload_n hx hb dL_law_610 rfl (lv_at hl 2 rfl) ?_
  refine lv_aload_n hx hb dL_law_611 rfl (lv_at hl 0 rfl) ?_
  refine lv_iload hx hb dL_law_612 (lv_at hl 4 rfl) ?_
  refine lv_iconst (v := 1) hx hb dL_law_614 (by decide) ?_
  refine lv_iadd hx hb dL_law_615 ?_
  refine x_sld hx hb hX hbl hbA hS (j + 1) (nI_add j 1) (by omega) hL dL_law_616 ?_
  refine wcVi (S0 := mS) (wr := cX c cA cC (u, n, m, lo, a, sl1, X1) ++ oW qo cL f) (As := [.int (xs (j + 1))]) (rest := [.int r1]) ⟨hx, hb, hml, hown, hts⟩ (k6_gap l D b cA u n m a _ (xs (j + 1)) hn hm hs4) (cwV 1 hts gL_law_X6_gap rfl rfl rfl (by decide +kernel) ⟨Nat.le_of_ble_eq_true rfl, Nat.le_of_ble_eq_true rfl⟩) (va_recv hK.1 hP (ci := 6) (q0 := 37) rfl rfl) hP hD hS hA hK1 (List.range' 37 17) (List.range 37 ++ [54]) rfl rfl (by decide) (by decide) (by decide) rfl hl.1 rfl (Nat.le_of_ble_eq_true rfl) dL_law_617 hk (fun r2 y H locs hp2 hP hD hS => ?_)
  have hP : va_P D vwCl (cX c cA cC (u, n, m, lo, a, sl1, X1) ++ mX b cA y ++ oW qo cL f) H := hP.sub (List.range 37 ++ List.range' 38 17 ++ [37]) rfl
  have hD : va_D A (cX c cA cC (u, n, m, lo, a, sl1, X1) ++ mX b cA y ++ oW qo cL f) := hD.sub (List.range 37 ++ List.range' 38 17 ++ [37]) (by decide) rfl
  obtain ⟨hr2, a1, rfl, ha1⟩ := hp2
  have heq : r1 = r2 := hr1.trans ((ag_ga (X := X1) hW hu2 (xs (j + 1)) hlk1).trans hr2.symm)
  refine lv_icmp_eq (tgt := 732) hx hb dL_law_620 (by decide) (fun c_620 => ?_) (fun c_620 => ?_)
  · have e9 : cX c cA cC (u, n, m, lo, a, sl1, X1) = cX c cA cC (va_up u 0 0, n, m, lo, a1, sl1, X1) := cX_c (up_c u 0) (fun i _ h => ha1 i h)
    rw [e9] at hP hD
    exact J _ _ _ _ _ _ _ _ _ _ _ (LI_q 0 hI ha1 hJ1 hLK1) (lv_sub hl [0, 1, 2, 3, 4] rfl) hP hD hS
  · exact absurd heq c_620

set_option maxHeartbeats 4000000 in
set_option maxRecDepth 100000 in
theorem law_place {p : Program} {l : Launch} {e : Env} {s : State} {mi : MethodId} {below : List Frame} {meth : Method} {cd : Code} {D : va_G} {c b : Nat → Nat} {cA cC cL : ClassId} {qo b0 L : Nat} {xs : Nat → Int32} {A : Nat → Prop} {zt sa : Nat} {Q : State → Prop} (C : LC p l s mi cd D cA cC cL b0 L xs A zt sa) (j k nn : Nat) (hj : j + 8 ≤ L) (hk : k + 1 ≤ 1080 ∧ nn + 6 ≤ 12356) (J : LH p l e s mi below meth cd D c b cA cC cL qo b0 A Q 732 j (k + 1) (nn + 6)) : LH p l e s mi below meth cd D c b cA cC cL qo b0 A Q 625 j k nn := by
  obtain ⟨hx, hb, hml, hown, hts, ⟨hX, hbl, hbA, hL⟩, hA, hK, hZ, hXK, hfl⟩ := C
  have hKl : kK D [(cA, .int), (cC, .object "StaffHeads$Chord")] s := ⟨hK.1.sub [0, 1] rfl, hK.2⟩
  have hK1 : kK D [(cA, .int)] s := ⟨hK.1.sub [0] rfl, hK.2⟩
  intro u n m a lo sl X f ls H locs hI hl hP hD hS
  obtain ⟨hW, hLo, hJ, hLK, hu2, hu3⟩ := id hI
  have hn : n ≤ 60 := hW.1
  have hm : m ≤ 12 := hW.2.1
  have hs4 := hs4_of hW
  refine W.widen (k := k + 1) (n := nn + 6) (Nat.le_succ _) (Nat.le_add_right _ _) ?_
  refine lv_aload_n hx hb dL_law_625 rfl (lv_at hl 1 rfl) ?_
  refine lv_aload_n hx hb dL_law_626 rfl (lv_at hl 0 rfl) ?_
  refine lv_iload hx hb dL_law_627 (lv_at hl 4 rfl) ?_
  refine lv_iconst (v := 1) hx hb dL_law_629 (by decide) ?_
  refine lv_iadd hx hb dL_law_630 ?_
  refine x_sld hx hb hX hbl hbA hS (j + 1) (nI_add j 1) (by omega) hL dL_law_631 ?_
  refine wcVl (S0 := cS) (wr := mW b cA u n m a ++ oW qo cL f) (As := [.int (xs (j + 1))]) (rest := []) ⟨hx, hb, hml, hown, hts⟩ (k5_place l D c cA cC u n m lo a sl X _ (xs (j + 1)) hW hLo hJ hLK) (cwV 1 hts gL_law_X5_place rfl rfl rfl (by decide +kernel) ⟨Nat.le_of_ble_eq_true rfl, Nat.le_of_ble_eq_true rfl⟩) (va_recv hK.1 hP (ci := 5) (q0 := 0) rfl rfl) hP hD hS hA hKl (List.range 37) (List.range' 37 18) rfl rfl (by decide) (by decide) (by decide) rfl hl.1 rfl (Nat.le_of_ble_eq_true rfl) dL_law_632 hk (fun r1 x H locs hp hP hD hS => ?_)
  have hP : va_P D vwCl (cX c cA cC x ++ mW b cA u n m a ++ oW qo cL f) H := hP.sub (List.range' 18 37 ++ List.range 18) rfl
  have hD : va_D A (cX c cA cC x ++ mW b cA u n m a ++ oW qo cL f) := hD.sub (List.range' 18 37 ++ List.range 18) (by decide) rfl
  obtain ⟨hr1, hlk1, sl1, X1, rfl, hJ1, hLK1⟩ := hp
  refine lv_aload_n hx hb dL_law_635 rfl (lv_at hl 2 rfl) ?_
  refine lv_aload_n hx hb dL_law_636 rfl (lv_at hl 0 rfl) ?_
  refine lv_iload hx hb dL_law_637 (lv_at hl 4 rfl) ?_
  refine lv_iconst (v := 1) hx hb dL_law_639 (by decide) ?_
  refine lv_iadd hx hb dL_law_640 ?_
  refine x_sld hx hb hX hbl hbA hS (j + 1) (nI_add j 1) (by omega) hL dL_law_641 ?_
  refine wcVl (S0 := mS) (wr := cX c cA cC (u, n, m, lo, a, sl1, X1) ++ oW qo cL f) (As := [.int (xs (j + 1))]) (rest := [.long r1]) ⟨hx, hb, hml, hown, hts⟩ (k6_place l D b cA u n m a _ (xs (j + 1)) hn hm hs4) (cwV 1 hts gL_law_X6_place rfl rfl rfl (by decide +kernel) ⟨Nat.le_of_ble_eq_true rfl, Nat.le_of_ble_eq_true rfl⟩) (va_recv hK.1 hP (ci := 6) (q0 := 37) rfl rfl) hP hD hS hA hK1 (List.range' 37 17) (List.range 37 ++ [54]) rfl rfl (by decide) (by decide) (by decide) rfl hl.1 rfl (Nat.le_of_ble_eq_true rfl) dL_law_642 hk (fun r2 y H locs hp2 hP hD hS => ?_)
  have hP : va_P D vwCl (cX c cA cC (u, n, m, lo, a, sl1, X1) ++ mX b cA y ++ oW qo cL f) H := hP.sub (List.range 37 ++ List.range' 38 17 ++ [37]) rfl
  have hD : va_D A (cX c cA cC (u, n, m, lo, a, sl1, X1) ++ mX b cA y ++ oW qo cL f) := hD.sub (List.range 37 ++ List.range' 38 17 ++ [37]) (by decide) rfl
  obtain ⟨hr2, a1, rfl, ha1⟩ := hp2
  have heq : r1 = r2 := hr1.trans ((ag_pl (X := X1) hW hu2 hu3 (xs (j + 1)) hlk1).trans hr2.symm)
  refine x_lcmp hx hb heq dL_law_645 ?_
  refine lv_if_eq (tgt := 732) hx hb dL_law_646 (by decide) (fun c_646 => ?_) (fun c_646 => ?_)
  · have e9 : cX c cA cC (u, n, m, lo, a, sl1, X1) = cX c cA cC (va_up u 0 0, n, m, lo, a1, sl1, X1) := cX_c (up_c u 0) (fun i _ h => ha1 i h)
    rw [e9] at hP hD
    exact J _ _ _ _ _ _ _ _ _ _ _ (LI_q 0 hI ha1 hJ1 hLK1) (lv_sub hl [0, 1, 2, 3, 4] rfl) hP hD hS
  · exact absurd rfl c_646

set_option maxHeartbeats 4000000 in
set_option maxRecDepth 100000 in
theorem law_about {p : Program} {l : Launch} {e : Env} {s : State} {mi : MethodId} {below : List Frame} {meth : Method} {cd : Code} {D : va_G} {c b : Nat → Nat} {cA cC cL : ClassId} {qo b0 L : Nat} {xs : Nat → Int32} {A : Nat → Prop} {zt sa : Nat} {Q : State → Prop} (C : LC p l s mi cd D cA cC cL b0 L xs A zt sa) (j k nn : Nat) (hj : j + 8 ≤ L) (hk : k + 1 ≤ 1080 ∧ nn + 6 ≤ 12356) (J : LH p l e s mi below meth cd D c b cA cC cL qo b0 A Q 732 j (k + 1) (nn + 6)) : LH p l e s mi below meth cd D c b cA cC cL qo b0 A Q 707 j k nn := by
  obtain ⟨hx, hb, hml, hown, hts, ⟨hX, hbl, hbA, hL⟩, hA, hK, hZ, hXK, hfl⟩ := C
  have hKl : kK D [(cA, .int), (cC, .object "StaffHeads$Chord")] s := ⟨hK.1.sub [0, 1] rfl, hK.2⟩
  have hK1 : kK D [(cA, .int)] s := ⟨hK.1.sub [0] rfl, hK.2⟩
  intro u n m a lo sl X f ls H locs hI hl hP hD hS
  obtain ⟨hW, hLo, hJ, hLK, hu2, hu3⟩ := id hI
  have hn : n ≤ 60 := hW.1
  have hm : m ≤ 12 := hW.2.1
  have hs4 := hs4_of hW
  refine W.widen (k := k + 1) (n := nn + 6) (Nat.le_succ _) (Nat.le_add_right _ _) ?_
  refine lv_aload_n hx hb dL_law_707 rfl (lv_at hl 1 rfl) ?_
  refine lv_aload_n hx hb dL_law_708 rfl (lv_at hl 0 rfl) ?_
  refine lv_iload hx hb dL_law_709 (lv_at hl 4 rfl) ?_
  refine lv_iconst (v := 1) hx hb dL_law_711 (by decide) ?_
  refine lv_iadd hx hb dL_law_712 ?_
  refine x_sld hx hb hX hbl hbA hS (j + 1) (nI_add j 1) (by omega) hL dL_law_713 ?_
  refine wcVi (S0 := cS) (wr := mW b cA u n m a ++ oW qo cL f) (As := [.int (xs (j + 1))]) (rest := []) ⟨hx, hb, hml, hown, hts⟩ (k5_about l D c cA cC u n m lo a sl X _ (xs (j + 1)) hW hLo hJ hLK) (cwV 1 hts gL_law_X5_about rfl rfl rfl (by decide +kernel) ⟨Nat.le_of_ble_eq_true rfl, Nat.le_of_ble_eq_true rfl⟩) (va_recv hK.1 hP (ci := 5) (q0 := 0) rfl rfl) hP hD hS hA hKl (List.range 37) (List.range' 37 18) rfl rfl (by decide) (by decide) (by decide) rfl hl.1 rfl (Nat.le_of_ble_eq_true rfl) dL_law_714 hk (fun r1 x H locs hp hP hD hS => ?_)
  have hP : va_P D vwCl (cX c cA cC x ++ mW b cA u n m a ++ oW qo cL f) H := hP.sub (List.range' 18 37 ++ List.range 18) rfl
  have hD : va_D A (cX c cA cC x ++ mW b cA u n m a ++ oW qo cL f) := hD.sub (List.range' 18 37 ++ List.range 18) (by decide) rfl
  obtain ⟨hr1, hlk1, sl1, X1, rfl, hJ1, hLK1⟩ := hp
  refine lv_aload_n hx hb dL_law_717 rfl (lv_at hl 2 rfl) ?_
  refine lv_aload_n hx hb dL_law_718 rfl (lv_at hl 0 rfl) ?_
  refine lv_iload hx hb dL_law_719 (lv_at hl 4 rfl) ?_
  refine lv_iconst (v := 1) hx hb dL_law_721 (by decide) ?_
  refine lv_iadd hx hb dL_law_722 ?_
  refine x_sld hx hb hX hbl hbA hS (j + 1) (nI_add j 1) (by omega) hL dL_law_723 ?_
  refine wcVi (S0 := mS) (wr := cX c cA cC (u, n, m, lo, a, sl1, X1) ++ oW qo cL f) (As := [.int (xs (j + 1))]) (rest := [.int r1]) ⟨hx, hb, hml, hown, hts⟩ (k6_about l D b cA u n m a _ (xs (j + 1)) hn) (cwV 1 hts gL_law_X6_about rfl rfl rfl (by decide +kernel) ⟨Nat.le_of_ble_eq_true rfl, Nat.le_of_ble_eq_true rfl⟩) (va_recv hK.1 hP (ci := 6) (q0 := 37) rfl rfl) hP hD hS hA hK1 (List.range' 37 17) (List.range 37 ++ [54]) rfl rfl (by decide) (by decide) (by decide) rfl hl.1 rfl (Nat.le_of_ble_eq_true rfl) dL_law_724 hk (fun r2 y H locs hp2 hP hD hS => ?_)
  have hP : va_P D vwCl (cX c cA cC (u, n, m, lo, a, sl1, X1) ++ mX b cA y ++ oW qo cL f) H := hP.sub (List.range 37 ++ List.range' 38 17 ++ [37]) rfl
  have hD : va_D A (cX c cA cC (u, n, m, lo, a, sl1, X1) ++ mX b cA y ++ oW qo cL f) := hD.sub (List.range 37 ++ List.range' 38 17 ++ [37]) (by decide) rfl
  obtain ⟨hr2, a1, rfl, ha1⟩ := hp2
  have heq : r1 = r2 := hr1.trans ((Eq.refl _).trans hr2.symm)
  refine lv_icmp_eq (tgt := 732) hx hb dL_law_727 (by decide) (fun c_727 => ?_) (fun c_727 => ?_)
  · have e9 : cX c cA cC (u, n, m, lo, a, sl1, X1) = cX c cA cC (va_up u 0 0, n, m, lo, a1, sl1, X1) := cX_c (up_c u 0) (fun i _ h => ha1 i h)
    rw [e9] at hP hD
    exact J _ _ _ _ _ _ _ _ _ _ _ (LI_q 0 hI ha1 hJ1 hLK1) (lv_sub hl [0, 1, 2, 3, 4] rfl) hP hD hS
  · exact absurd heq c_727
