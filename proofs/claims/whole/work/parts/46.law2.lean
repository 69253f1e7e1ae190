set_option maxHeartbeats 4000000 in
set_option maxRecDepth 100000 in
theorem law_clef {p : Program} {l : Launch} {e : Env} {s : State} {mi : MethodId} {below : List Frame} {meth : Method} {cd : Code} {D : va_G} {c b : Nat → Nat} {cA cC cL : ClassId} {qo b0 L : Nat} {xs : Nat → Int32} {A : Nat → Prop} {zt sa : Nat} {Q : State → Prop} (C : LC p l s mi cd D cA cC cL b0 L xs A zt sa) (j k nn : Nat) (hj : j + 8 ≤ L) (hk : k + 1 ≤ 1080 ∧ nn + 6 ≤ 12356) (J : LH p l e s mi below meth cd D c b cA cC cL qo b0 A Q 732 j (k + 1) (nn + 6)) : LH p l e s mi below meth cd D c b cA cC cL qo b0 A Q 124 j k nn := by
  obtain ⟨hx, hb, hml, hown, hts, ⟨hX, hbl, hbA, hL⟩, hA, hK, hZ, hXK, hfl⟩ := C
  have hKl : kK D [(cA, .int), (cC, .object "StaffHeads$Chord")] s := ⟨hK.1.sub [0, 1] rfl, hK.2⟩
  have hK1 : kK D [(cA, .int)] s := ⟨hK.1.sub [0] rfl, hK.2⟩
  intro u n m a lo sl X f ls H locs hI hl hP hD hS
  obtain ⟨hW, hLo, hJ, hLK, hu2, hu3⟩ := id hI
  have hn : n ≤ 60 := hW.1
  have hm : m ≤ 12 := hW.2.1
  have hs4 := hs4_of hW
  refine W.widen (k := k + 1) (n := nn + 6) (Nat.le_succ _) (Nat.le_add_right _ _) ?_
  refine lv_aload_n hx hb dL_law_124 rfl (lv_at hl 1 rfl) ?_
  refine lv_aload_n hx hb dL_law_125 rfl (lv_at hl 0 rfl) ?_
  refine lv_iload hx hb dL_law_126 (lv_at hl 4 rfl) ?_
  refine lv_iconst (v := 1) hx hb dL_law_128 (by decide) ?_
  refine lv_iadd hx hb dL_law_129 ?_
  refine x_sld hx hb hX hbl hbA hS (j + 1) (nI_add j 1) (by omega) hL dL_law_130 ?_
  refine lv_aload_n hx hb dL_law_131 rfl (lv_at hl 0 rfl) ?_
  refine lv_iload hx hb dL_law_132 (lv_at hl 4 rfl) ?_
  refine lv_iconst (v := 2) hx hb dL_law_134 (by decide) ?_
  refine lv_iadd hx hb dL_law_135 ?_
  refine x_sld hx hb hX hbl hbA hS (j + 2) (nI_add j 2) (by omega) hL dL_law_136 ?_
  refine lv_aload_n hx hb dL_law_137 rfl (lv_at hl 0 rfl) ?_
  refine lv_iload hx hb dL_law_138 (lv_at hl 4 rfl) ?_
  refine lv_iconst (v := 3) hx hb dL_law_140 (by decide) ?_
  refine lv_iadd hx hb dL_law_141 ?_
  refine x_sld hx hb hX hbl hbA hS (j + 3) (nI_add j 3) (by omega) hL dL_law_142 ?_
  refine wgi (S0 := cS) (wr := mW b cA u n m a ++ oW qo cL f) (va_runV (As := [.int (xs (j + 1)), .int (xs (j + 2)), .int (xs (j + 3))]) (rest := []) ⟨hx, hb, hml, hown, hts⟩ (k5_clef l D c cA cC u n m lo a sl X _ zt (xs (j + 1)) (xs (j + 2)) (xs (j + 3))) (cwV 3 hts gL_law_X5_clef rfl rfl rfl (by decide +kernel) ⟨Nat.le_of_ble_eq_true rfl, Nat.le_of_ble_eq_true rfl⟩) (preZV (va_recv hK.1 hP (ci := 5) (q0 := 0) rfl rfl) hP hD hS hA hKl hZ (List.range 37) rfl (by decide)) rfl rfl hl.1 rfl (lv_room (Nat.le_of_ble_eq_true rfl)) dL_law_143 hk) hP hD hS hA (List.range 37) (List.range' 37 18) rfl rfl (by decide) (by decide) (fun r1 x H locs hp hP hD hS => ?_)
  have hP : va_P D vwCl (cX c cA cC x ++ mW b cA u n m a ++ oW qo cL f) H := hP.sub (List.range' 18 37 ++ List.range 18) rfl
  have hD : va_D A (cX c cA cC x ++ mW b cA u n m a ++ oW qo cL f) := hD.sub (List.range' 18 37 ++ List.range 18) (by decide) rfl
  refine lv_aload_n hx hb dL_law_146 rfl (lv_at hl 2 rfl) ?_
  refine lv_aload_n hx hb dL_law_147 rfl (lv_at hl 0 rfl) ?_
  refine lv_iload hx hb dL_law_148 (lv_at hl 4 rfl) ?_
  refine lv_iconst (v := 1) hx hb dL_law_150 (by decide) ?_
  refine lv_iadd hx hb dL_law_151 ?_
  refine x_sld hx hb hX hbl hbA hS (j + 1) (nI_add j 1) (by omega) hL dL_law_152 ?_
  refine lv_aload_n hx hb dL_law_153 rfl (lv_at hl 0 rfl) ?_
  refine lv_iload hx hb dL_law_154 (lv_at hl 4 rfl) ?_
  refine lv_iconst (v := 2) hx hb dL_law_156 (by decide) ?_
  refine lv_iadd hx hb dL_law_157 ?_
  refine x_sld hx hb hX hbl hbA hS (j + 2) (nI_add j 2) (by omega) hL dL_law_158 ?_
  refine lv_aload_n hx hb dL_law_159 rfl (lv_at hl 0 rfl) ?_
  refine lv_iload hx hb dL_law_160 (lv_at hl 4 rfl) ?_
  refine lv_iconst (v := 3) hx hb dL_law_162 (by decide) ?_
  refine lv_iadd hx hb dL_law_163 ?_
  refine x_sld hx hb hX hbl hbA hS (j + 3) (nI_add j 3) (by omega) hL dL_law_164 ?_
  refine wcVi (S0 := mS) (wr := cX c cA cC x ++ oW qo cL f) (As := [.int (xs (j + 1)), .int (xs (j + 2)), .int (xs (j + 3))]) (rest := [.int r1]) ⟨hx, hb, hml, hown, hts⟩ (k6_clef l D b cA u n m a _ (xs (j + 1)) (xs (j + 2)) (xs (j + 3))) (cwV 3 hts gL_law_X6_clef rfl rfl rfl (by decide +kernel) ⟨Nat.le_of_ble_eq_true rfl, Nat.le_of_ble_eq_true rfl⟩) (va_recv hK.1 hP (ci := 6) (q0 := 37) rfl rfl) hP hD hS hA hK1 (List.range' 37 17) (List.range 37 ++ [54]) rfl rfl (by decide) (by decide) (by decide) rfl hl.1 rfl (Nat.le_of_ble_eq_true rfl) dL_law_165 hk (fun r2 y H locs hp2 hP hD hS => ?_)
  have hP : va_P D vwCl (cX c cA cC x ++ mX b cA y ++ oW qo cL f) H := hP.sub (List.range 37 ++ List.range' 38 17 ++ [37]) rfl
  have hD : va_D A (cX c cA cC x ++ mX b cA y ++ oW qo cL f) := hD.sub (List.range 37 ++ List.range' 38 17 ++ [37]) (by decide) rfl
  have hm9 := mutClef_c (xs (j + 1)) (xs (j + 2)) (xs (j + 3)) (u, n, m, lo, a, sl, X) (u, n, m, upd lo (xs (j + 1)).toNatClampNeg (rClef (xs (j + 2)) - 2 * (xs (j + 3) - 1)), a, True, X) (va_up u 0 0, n, m, a) (va_up u 0 0, n, m, rClefA a (xs (j + 1)).toNatClampNeg (xs (j + 2)) (xs (j + 3)))
  rw [← hp, ← hp2] at hm9
  have heq : r1 = r2 := hm9.1
  refine lv_icmp_eq (tgt := 732) hx hb dL_law_168 (by decide) (fun c_168 => ?_) (fun c_168 => ?_)
  · rcases hm9.2 with ⟨c1, c2, c3, ex, ey⟩ | ⟨ex, ey⟩
    · subst ex; subst ey
      rw [cX_c (c := c) (cA := cA) (cC := cC) (up_c u 0) (clefA_c a _ _ _)] at hP hD
      exact J _ _ _ _ _ _ _ _ _ _ _ (LI_clef hI c1 c3) (lv_sub hl [0, 1, 2, 3, 4] rfl) hP hD hS
    · subst ex; subst ey
      rw [cX_c (c := c) (cA := cA) (cC := cC) (up_c u 0) (fun i _ _ => (rfl : a i = a i))] at hP hD
      exact J _ _ _ _ _ _ _ _ _ _ _ (LI_q 0 hI (fun _ _ => rfl) hJ hLK) (lv_sub hl [0, 1, 2, 3, 4] rfl) hP hD hS
  · exact absurd heq c_168

set_option maxHeartbeats 4000000 in
set_option maxRecDepth 100000 in
theorem law_shift {p : Program} {l : Launch} {e : Env} {s : State} {mi : MethodId} {below : List Frame} {meth : Method} {cd : Code} {D : va_G} {c b : Nat → Nat} {cA cC cL : ClassId} {qo b0 L : Nat} {xs : Nat → Int32} {A : Nat → Prop} {zt sa : Nat} {Q : State → Prop} (C : LC p l s mi cd D cA cC cL b0 L xs A zt sa) (j k nn : Nat) (hj : j + 8 ≤ L) (hk : k + 1 ≤ 1080 ∧ nn + 6 ≤ 12356) (J : LH p l e s mi below meth cd D c b cA cC cL qo b0 A Q 732 j (k + 1) (nn + 6)) : LH p l e s mi below meth cd D c b cA cC cL qo b0 A Q 173 j k nn := by
  obtain ⟨hx, hb, hml, hown, hts, ⟨hX, hbl, hbA, hL⟩, hA, hK, hZ, hXK, hfl⟩ := C
  have hKl : kK D [(cA, .int), (cC, .object "StaffHeads$Chord")] s := ⟨hK.1.sub [0, 1] rfl, hK.2⟩
  have hK1 : kK D [(cA, .int)] s := ⟨hK.1.sub [0] rfl, hK.2⟩
  intro u n m a lo sl X f ls H locs hI hl hP hD hS
  obtain ⟨hW, hLo, hJ, hLK, hu2, hu3⟩ := id hI
  have hn : n ≤ 60 := hW.1
  have hm : m ≤ 12 := hW.2.1
  have hs4 := hs4_of hW
  refine W.widen (k := k + 1) (n := nn + 6) (Nat.le_succ _) (Nat.le_add_right _ _) ?_
  refine lv_aload_n hx hb dL_law_173 rfl (lv_at hl 1 rfl) ?_
  refine lv_aload_n hx hb dL_law_174 rfl (lv_at hl 0 rfl) ?_
  refine lv_iload hx hb dL_law_175 (lv_at hl 4 rfl) ?_
  refine lv_iconst (v := 1) hx hb dL_law_177 (by decide) ?_
  refine lv_iadd hx hb dL_law_178 ?_
  refine x_sld hx hb hX hbl hbA hS (j + 1) (nI_add j 1) (by omega) hL dL_law_179 ?_
  refine lv_aload_n hx hb dL_law_180 rfl (lv_at hl 0 rfl) ?_
  refine lv_iload hx hb dL_law_181 (lv_at hl 4 rfl) ?_
  refine lv_iconst (v := 2) hx hb dL_law_183 (by decide) ?_
  refine lv_iadd hx hb dL_law_184 ?_
  refine x_sld hx hb hX hbl hbA hS (j + 2) (nI_add j 2) (by omega) hL dL_law_185 ?_
  refine lv_aload_n hx hb dL_law_186 rfl (lv_at hl 0 rfl) ?_
  refine lv_iload hx hb dL_law_187 (lv_at hl 4 rfl) ?_
  refine lv_iconst (v := 3) hx hb dL_law_189 (by decide) ?_
  refine lv_iadd hx hb dL_law_190 ?_
  refine x_sld hx hb hX hbl hbA hS (j + 3) (nI_add j 3) (by omega) hL dL_law_191 ?_
  refine lv_aload_n hx hb dL_law_192 rfl (lv_at hl 0 rfl) ?_
  refine lv_iload hx hb dL_law_193 (lv_at hl 4 rfl) ?_
  refine lv_iconst (v := 4) hx hb dL_law_195 (by decide) ?_
  refine lv_iadd hx hb dL_law_196 ?_
  refine x_sld hx hb hX hbl hbA hS (j + 4) (nI_add j 4) (by omega) hL dL_law_197 ?_
  refine wcVi (S0 := cS) (wr := mW b cA u n m a ++ oW qo cL f) (As := [.int (xs (j + 1)), .int (xs (j + 2)), .int (xs (j + 3)), .int (xs (j + 4))]) (rest := []) ⟨hx, hb, hml, hown, hts⟩ (k5_shift l D c cA cC u n m lo a sl X _ (xs (j + 1)) (xs (j + 2)) (xs (j + 3)) (xs (j + 4)) hm) (cwV 4 hts gL_law_X5_shift rfl rfl rfl (by decide +kernel) ⟨Nat.le_of_ble_eq_true rfl, Nat.le_of_ble_eq_true rfl⟩) (va_recv hK.1 hP (ci := 5) (q0 := 0) rfl rfl) hP hD hS hA hKl (List.range 37) (List.range' 37 18) rfl rfl (by decide) (by decide) (by decide) rfl hl.1 rfl (Nat.le_of_ble_eq_true rfl) dL_law_198 hk (fun r1 x H locs hp hP hD hS => ?_)
  have hP : va_P D vwCl (cX c cA cC x ++ mW b cA u n m a ++ oW qo cL f) H := hP.sub (List.range' 18 37 ++ List.range 18) rfl
  have hD : va_D A (cX c cA cC x ++ mW b cA u n m a ++ oW qo cL f) := hD.sub (List.range' 18 37 ++ List.range 18) (by decide) rfl
  refine lv_aload_n hx hb dL_law_201 rfl (lv_at hl 2 rfl) ?_
  refine lv_aload_n hx hb dL_law_202 rfl (lv_at hl 0 rfl) ?_
  refine lv_iload hx hb dL_law_203 (lv_at hl 4 rfl) ?_
  refine lv_iconst (v := 1) hx hb dL_law_205 (by decide) ?_
  refine lv_iadd hx hb dL_law_206 ?_
  refine x_sld hx hb hX hbl hbA hS (j + 1) (nI_add j 1) (by omega) hL dL_law_207 ?_
  refine lv_aload_n hx hb dL_law_208 rfl (lv_at hl 0 rfl) ?_
  refine lv_iload hx hb dL_law_209 (lv_at hl 4 rfl) ?_
  refine lv_iconst (v := 2) hx hb dL_law_211 (by decide) ?_
  refine lv_iadd hx hb dL_law_212 ?_
  refine x_sld hx hb hX hbl hbA hS (j + 2) (nI_add j 2) (by omega) hL dL_law_213 ?_
  refine lv_aload_n hx hb dL_law_214 rfl (lv_at hl 0 rfl) ?_
  refine lv_iload hx hb dL_law_215 (lv_at hl 4 rfl) ?_
  refine lv_iconst (v := 3) hx hb dL_law_217 (by decide) ?_
  refine lv_iadd hx hb dL_law_218 ?_
  refine x_sld hx hb hX hbl hbA hS (j + 3) (nI_add j 3) (by omega) hL dL_law_219 ?_
  refine lv_aload_n hx hb dL_law_220 rfl (lv_at hl 0 rfl) ?_
  refine lv_iload hx hb dL_law_221 (lv_at hl 4 rfl) ?_
  refine lv_iconst (v := 4) hx hb dL_law_223 (by decide) ?_
  refine lv_iadd hx hb dL_law_224 ?_
  refine x_sld hx hb hX hbl hbA hS (j + 4) (nI_add j 4) (by omega) hL dL_law_225 ?_
  refine wcVi (S0 := mS) (wr := cX c cA cC x ++ oW qo cL f) (As := [.int (xs (j + 1)), .int (xs (j + 2)), .int (xs (j + 3)), .int (xs (j + 4))]) (rest := [.int r1]) ⟨hx, hb, hml, hown, hts⟩ (k6_shift l D b cA u n m a _ (xs (j + 1)) (xs (j + 2)) (xs (j + 3)) (xs (j + 4)) hm) (cwV 4 hts gL_law_X6_shift rfl rfl rfl (by decide +kernel) ⟨Nat.le_of_ble_eq_true rfl, Nat.le_of_ble_eq_true rfl⟩) (va_recv hK.1 hP (ci := 6) (q0 := 37) rfl rfl) hP hD hS hA hK1 (List.range' 37 17) (List.range 37 ++ [54]) rfl rfl (by decide) (by decide) (by decide) rfl hl.1 rfl (Nat.le_of_ble_eq_true rfl) dL_law_226 hk (fun r2 y H locs hp2 hP hD hS => ?_)
  have hP : va_P D vwCl (cX c cA cC x ++ mX b cA y ++ oW qo cL f) H := hP.sub (List.range 37 ++ List.range' 38 17 ++ [37]) rfl
  have hD : va_D A (cX c cA cC x ++ mX b cA y ++ oW qo cL f) := hD.sub (List.range 37 ++ List.range' 38 17 ++ [37]) (by decide) rfl
  have hm9 := mutShift_c m (xs (j + 1)) (xs (j + 2)) (xs (j + 3)) (xs (j + 4)) (u, n, m, lo, a, sl, X) (u, n, m + 1, lo, rShiftA a m (xs (j + 1)) (xs (j + 2)) (xs (j + 3)) (xs (j + 4)), True, X) (va_up u 0 0, n, m, a) (va_up u 0 0, n, m + 1, rShiftA a m (xs (j + 1)) (xs (j + 2)) (xs (j + 3)) (xs (j + 4)))
  rw [← hp, ← hp2] at hm9
  have heq : r1 = r2 := hm9.1
  refine lv_icmp_eq (tgt := 732) hx hb dL_law_229 (by decide) (fun c_229 => ?_) (fun c_229 => ?_)
  · rcases hm9.2 with ⟨c1, c2, ex, ey⟩ | ⟨ex, ey⟩
    · subst ex; subst ey
      rw [cX_c (c := c) (cA := cA) (cC := cC) (up_c u 0) (fun i _ _ => (rfl : rShiftA a m (xs (j + 1)) (xs (j + 2)) (xs (j + 3)) (xs (j + 4)) i = rShiftA a m (xs (j + 1)) (xs (j + 2)) (xs (j + 3)) (xs (j + 4)) i))] at hP hD
      exact J _ _ _ _ _ _ _ _ _ _ _ (LI_shift hI c1 c2) (lv_sub hl [0, 1, 2, 3, 4] rfl) hP hD hS
    · subst ex; subst ey
      rw [cX_c (c := c) (cA := cA) (cC := cC) (up_c u 0) (fun i _ _ => (rfl : a i = a i))] at hP hD
      exact J _ _ _ _ _ _ _ _ _ _ _ (LI_q 0 hI (fun _ _ => rfl) hJ hLK) (lv_sub hl [0, 1, 2, 3, 4] rfl) hP hD hS
  · exact absurd heq c_229

set_option maxHeartbeats 4000000 in
set_option maxRecDepth 100000 in
theorem law_note {p : Program} {l : Launch} {e : Env} {s : State} {mi : MethodId} {below : List Frame} {meth : Method} {cd : Code} {D : va_G} {c b : Nat → Nat} {cA cC cL : ClassId} {qo b0 L : Nat} {xs : Nat → Int32} {A : Nat → Prop} {zt sa : Nat} {Q : State → Prop} (C : LC p l s mi cd D cA cC cL b0 L xs A zt sa) (j k nn : Nat) (hj : j + 8 ≤ L) (hk : k + 1 ≤ 1080 ∧ nn + 6 ≤ 12356) (J : LH p l e s mi below meth cd D c b cA cC cL qo b0 A Q 732 j (k + 1) (nn + 6)) : LH p l e s mi below meth cd D c b cA cC cL qo b0 A Q 247 j k nn := by
  obtain ⟨hx, hb, hml, hown, hts, ⟨hX, hbl, hbA, hL⟩, hA, hK, hZ, hXK, hfl⟩ := C
  have hKl : kK D [(cA, .int), (cC, .object "StaffHeads$Chord")] s := ⟨hK.1.sub [0, 1] rfl, hK.2⟩
  have hK1 : kK D [(cA, .int)] s := ⟨hK.1.sub [0] rfl, hK.2⟩
  intro u n m a lo sl X f ls H locs hI hl hP hD hS
  obtain ⟨hW, hLo, hJ, hLK, hu2, hu3⟩ := id hI
  have hn : n ≤ 60 := hW.1
  have hm : m ≤ 12 := hW.2.1
  have hs4 := hs4_of hW
  refine W.widen (k := k + 1) (n := nn + 6) (Nat.le_succ _) (Nat.le_add_right _ _) ?_
  refine lv_aload_n hx hb dL_law_247 rfl (lv_at hl 1 rfl) ?_
  refine lv_aload_n hx hb dL_law_248 rfl (lv_at hl 0 rfl) ?_
  refine lv_iload hx hb dL_law_249 (lv_at hl 4 rfl) ?_
  refine lv_iconst (v := 1) hx hb dL_law_251 (by decide) ?_
  refine lv_iadd hx hb dL_law_252 ?_
  refine x_sld hx hb hX hbl hbA hS (j + 1) (nI_add j 1) (by omega) hL dL_law_253 ?_
  refine lv_aload_n hx hb dL_law_254 rfl (lv_at hl 0 rfl) ?_
  refine lv_iload hx hb dL_law_255 (lv_at hl 4 rfl) ?_
  refine lv_iconst (v := 2) hx hb dL_law_257 (by decide) ?_
  refine lv_iadd hx hb dL_law_258 ?_
  refine x_sld hx hb hX hbl hbA hS (j + 2) (nI_add j 2) (by omega) hL dL_law_259 ?_
  refine lv_aload_n hx hb dL_law_260 rfl (lv_at hl 0 rfl) ?_
  refine lv_iload hx hb dL_law_261 (lv_at hl 4 rfl) ?_
  refine lv_iconst (v := 3) hx hb dL_law_263 (by decide) ?_
  refine lv_iadd hx hb dL_law_264 ?_
  refine x_sld hx hb hX hbl hbA hS (j + 3) (nI_add j 3) (by omega) hL dL_law_265 ?_
  refine lv_aload_n hx hb dL_law_266 rfl (lv_at hl 0 rfl) ?_
  refine lv_iload hx hb dL_law_267 (lv_at hl 4 rfl) ?_
  refine lv_iconst (v := 4) hx hb dL_law_269 (by decide) ?_
  refine lv_iadd hx hb dL_law_270 ?_
  refine x_sld hx hb hX hbl hbA hS (j + 4) (nI_add j 4) (by omega) hL dL_law_271 ?_
  refine lv_aload_n hx hb dL_law_272 rfl (lv_at hl 0 rfl) ?_
  refine lv_iload hx hb dL_law_273 (lv_at hl 4 rfl) ?_
  refine lv_iconst (v := 5) hx hb dL_law_275 (by decide) ?_
  refine lv_iadd hx hb dL_law_276 ?_
  refine x_sld hx hb hX hbl hbA hS (j + 5) (nI_add j 5) (by omega) hL dL_law_277 ?_
  refine lv_aload_n hx hb dL_law_278 rfl (lv_at hl 0 rfl) ?_
  refine lv_iload hx hb dL_law_279 (lv_at hl 4 rfl) ?_
  refine lv_bipush (v := 6) hx hb dL_law_281 (by decide) ?_
  refine lv_iadd hx hb dL_law_283 ?_
  refine x_sld hx hb hX hbl hbA hS (j + 6) (nI_add j 6) (by omega) hL dL_law_284 ?_
  refine lv_aload_n hx hb dL_law_285 rfl (lv_at hl 0 rfl) ?_
  refine lv_iload hx hb dL_law_286 (lv_at hl 4 rfl) ?_
  refine lv_bipush (v := 7) hx hb dL_law_288 (by decide) ?_
  refine lv_iadd hx hb dL_law_290 ?_
  refine x_sld hx hb hX hbl hbA hS (j + 7) (nI_add j 7) (by omega) hL dL_law_291 ?_
  refine wcVi (S0 := cS) (wr := mW b cA u n m a ++ oW qo cL f) (As := [.int (xs (j + 1)), .int (xs (j + 2)), .int (xs (j + 3)), .int (xs (j + 4)), .int (xs (j + 5)), .int (xs (j + 6)), .int (xs (j + 7))]) (rest := []) ⟨hx, hb, hml, hown, hts⟩ (k5_note l D c cA cC u n m lo a sl X _ (xs (j + 1)) (xs (j + 2)) (xs (j + 3)) (xs (j + 4)) (xs (j + 5)) (xs (j + 6)) (xs (j + 7)) hn) (cwV 7 hts gL_law_X5_note rfl rfl rfl (by decide +kernel) ⟨Nat.le_of_ble_eq_true rfl, Nat.le_of_ble_eq_true rfl⟩) (va_recv hK.1 hP (ci := 5) (q0 := 0) rfl rfl) hP hD hS hA hKl (List.range 37) (List.range' 37 18) rfl rfl (by decide) (by decide) (by decide) rfl hl.1 rfl (Nat.le_of_ble_eq_true rfl) dL_law_292 hk (fun r1 x H locs hp hP hD hS => ?_)
  have hP : va_P D vwCl (cX c cA cC x ++ mW b cA u n m a ++ oW qo cL f) H := hP.sub (List.range' 18 37 ++ List.range 18) rfl
  have hD : va_D A (cX c cA cC x ++ mW b cA u n m a ++ oW qo cL f) := hD.sub (List.range' 18 37 ++ List.range 18) (by decide) rfl
  refine lv_aload_n hx hb dL_law_295 rfl (lv_at hl 2 rfl) ?_
  refine lv_aload_n hx hb dL_law_296 rfl (lv_at hl 0 rfl) ?_
  refine lv_iload hx hb dL_law_297 (lv_at hl 4 rfl) ?_
  refine lv_iconst (v := 1) hx hb dL_law_299 (by decide) ?_
  refine lv_iadd hx hb dL_law_300 ?_
  refine x_sld hx hb hX hbl hbA hS (j + 1) (nI_add j 1) (by omega) hL dL_law_301 ?_
  refine lv_aload_n hx hb dL_law_302 rfl (lv_at hl 0 rfl) ?_
  refine lv_iload hx hb dL_law_303 (lv_at hl 4 rfl) ?_
  refine lv_iconst (v := 2) hx hb dL_law_305 (by decide) ?_
  refine lv_iadd hx hb dL_law_306 ?_
  refine x_sld hx hb hX hbl hbA hS (j + 2) (nI_add j 2) (by omega) hL dL_law_307 ?_
  refine lv_aload_n hx hb dL_law_308 rfl (lv_at hl 0 rfl) ?_
  refine lv_iload hx hb dL_law_309 (lv_at hl 4 rfl) ?_
  refine lv_iconst (v := 3) hx hb dL_law_311 (by decide) ?_
  refine lv_iadd hx hb dL_law_312 ?_
  refine x_sld hx hb hX hbl hbA hS (j + 3) (nI_add j 3) (by omega) hL dL_law_313 ?_
  refine lv_aload_n hx hb dL_law_314 rfl (lv_at hl 0 rfl) ?_
  refine lv_iload hx hb dL_law_315 (lv_at hl 4 rfl) ?_
  refine lv_iconst (v := 4) hx hb dL_law_317 (by decide) ?_
  refine lv_iadd hx hb dL_law_318 ?_
  refine x_sld hx hb hX hbl hbA hS (j + 4) (nI_add j 4) (by omega) hL dL_law_319 ?_
  refine lv_aload_n hx hb dL_law_320 rfl (lv_at hl 0 rfl) ?_
  refine lv_iload hx hb dL_law_321 (lv_at hl 4 rfl) ?_
  refine lv_iconst (v := 5) hx hb dL_law_323 (by decide) ?_
  refine lv_iadd hx hb dL_law_324 ?_
  refine x_sld hx hb hX hbl hbA hS (j + 5) (nI_add j 5) (by omega) hL dL_law_325 ?_
  refine lv_aload_n hx hb dL_law_326 rfl (lv_at hl 0 rfl) ?_
  refine lv_iload hx hb dL_law_327 (lv_at hl 4 rfl) ?_
  refine lv_bipush (v := 6) hx hb dL_law_329 (by decide) ?_
  refine lv_iadd hx hb dL_law_331 ?_
  refine x_sld hx hb hX hbl hbA hS (j + 6) (nI_add j 6) (by omega) hL dL_law_332 ?_
  refine lv_aload_n hx hb dL_law_333 rfl (lv_at hl 0 rfl) ?_
  refine lv_iload hx hb dL_law_334 (lv_at hl 4 rfl) ?_
  refine lv_bipush (v := 7) hx hb dL_law_336 (by decide) ?_
  refine lv_iadd hx hb dL_law_338 ?_
  refine x_sld hx hb hX hbl hbA hS (j + 7) (nI_add j 7) (by omega) hL dL_law_339 ?_
  refine wcVi (S0 := mS) (wr := cX c cA cC x ++ oW qo cL f) (As := [.int (xs (j + 1)), .int (xs (j + 2)), .int (xs (j + 3)), .int (xs (j + 4)), .int (xs (j + 5)), .int (xs (j + 6)), .int (xs (j + 7))]) (rest := [.int r1]) ⟨hx, hb, hml, hown, hts⟩ (k6_note l D b cA u n m a _ (xs (j + 1)) (xs (j + 2)) (xs (j + 3)) (xs (j + 4)) (xs (j + 5)) (xs (j + 6)) (xs (j + 7)) hn) (cwV 7 hts gL_law_X6_note rfl rfl rfl (by decide +kernel) ⟨Nat.le_of_ble_eq_true rfl, Nat.le_of_ble_eq_true rfl⟩) (va_recv hK.1 hP (ci := 6) (q0 := 37) rfl rfl) hP hD hS hA hK1 (List.range' 37 17) (List.range 37 ++ [54]) rfl rfl (by decide) (by decide) (by decide) rfl hl.1 rfl (Nat.le_of_ble_eq_true rfl) dL_law_340 hk (fun r2 y H locs hp2 hP hD hS => ?_)
  have hP : va_P D vwCl (cX c cA cC x ++ mX b cA y ++ oW qo cL f) H := hP.sub (List.range 37 ++ List.range' 38 17 ++ [37]) rfl
  have hD : va_D A (cX c cA cC x ++ mX b cA y ++ oW qo cL f) := hD.sub (List.range 37 ++ List.range' 38 17 ++ [37]) (by decide) rfl
  have hm9 := mutNote_c n (xs (j + 1)) (xs (j + 2)) (xs (j + 3)) (xs (j + 4)) (xs (j + 5)) (xs (j + 6)) (xs (j + 7)) (u, n, m, lo, a, sl, X) (u, n + 1, m, lo, rNoteA a n (xs (j + 1)) (xs (j + 2)) (xs (j + 3)) (xs (j + 4)) (xs (j + 5)) (xs (j + 6)) (xs (j + 7)), True, X) (va_up u 0 0, n, m, a) (va_up u 0 0, n + 1, m, rNoteA a n (xs (j + 1)) (xs (j + 2)) (xs (j + 3)) (xs (j + 4)) (xs (j + 5)) (xs (j + 6)) (xs (j + 7)))
  rw [← hp, ← hp2] at hm9
  have heq : r1 = r2 := hm9.1
  refine lv_icmp_eq (tgt := 732) hx hb dL_law_343 (by decide) (fun c_343 => ?_) (fun c_343 => ?_)
  · rcases hm9.2 with ⟨c1, c2, c3, ex, ey⟩ | ⟨ex, ey⟩
    · subst ex; subst ey
      rw [cX_c (c := c) (cA := cA) (cC := cC) (up_c u 0) (fun i _ _ => (rfl : rNoteA a n (xs (j + 1)) (xs (j + 2)) (xs (j + 3)) (xs (j + 4)) (xs (j + 5)) (xs (j + 6)) (xs (j + 7)) i = rNoteA a n (xs (j + 1)) (xs (j + 2)) (xs (j + 3)) (xs (j + 4)) (xs (j + 5)) (xs (j + 6)) (xs (j + 7)) i))] at hP hD
      exact J _ _ _ _ _ _ _ _ _ _ _ (LI_note hI c1 c2 c3) (lv_sub hl [0, 1, 2, 3, 4] rfl) hP hD hS
    · subst ex; subst ey
      rw [cX_c (c := c) (cA := cA) (cC := cC) (up_c u 0) (fun i _ _ => (rfl : a i = a i))] at hP hD
      exact J _ _ _ _ _ _ _ _ _ _ _ (LI_q 0 hI (fun _ _ => rfl) hJ hLK) (lv_sub hl [0, 1, 2, 3, 4] rfl) hP hD hS
  · exact absurd heq c_343

set_option maxHeartbeats 4000000 in
set_option maxRecDepth 100000 in
theorem law_drop {p : Program} {l : Launch} {e : Env} {s : State} {mi : MethodId} {below : List Frame} {meth : Method} {cd : Code} {D : va_G} {c b : Nat → Nat} {cA cC cL : ClassId} {qo b0 L : Nat} {xs : Nat → Int32} {A : Nat → Prop} {zt sa : Nat} {Q : State → Prop} (C : LC p l s mi cd D cA cC cL b0 L xs A zt sa) (j k nn : Nat) (hj : j + 8 ≤ L) (hk : k + 1 ≤ 1080 ∧ nn + 6 ≤ 12356) (J : LH p l e s mi below meth cd D c b cA cC cL qo b0 A Q 732 j (k + 1) (nn + 6)) : LH p l e s mi below meth cd D c b cA cC cL qo b0 A Q 348 j k nn := by
  obtain ⟨hx, hb, hml, hown, hts, ⟨hX, hbl, hbA, hL⟩, hA, hK, hZ, hXK, hfl⟩ := C
  have hKl : kK D [(cA, .int), (cC, .object "StaffHeads$Chord")] s := ⟨hK.1.sub [0, 1] rfl, hK.2⟩
  have hK1 : kK D [(cA, .int)] s := ⟨hK.1.sub [0] rfl, hK.2⟩
  intro u n m a lo sl X f ls H locs hI hl hP hD hS
  obtain ⟨hW, hLo, hJ, hLK, hu2, hu3⟩ := id hI
  have hn : n ≤ 60 := hW.1
  have hm : m ≤ 12 := hW.2.1
  have hs4 := hs4_of hW
  refine W.widen (k := k + 1) (n := nn + 6) (Nat.le_succ _) (Nat.le_add_right _ _) ?_
  refine lv_aload_n hx hb dL_law_348 rfl (lv_at hl 1 rfl) ?_
  refine lv_aload_n hx hb dL_law_349 rfl (lv_at hl 0 rfl) ?_
  refine lv_iload hx hb dL_law_350 (lv_at hl 4 rfl) ?_
  refine lv_iconst (v := 1) hx hb dL_law_352 (by decide) ?_
  refine lv_iadd hx hb dL_law_353 ?_
  refine x_sld hx hb hX hbl hbA hS (j + 1) (nI_add j 1) (by omega) hL dL_law_354 ?_
  refine wcVi (S0 := cS) (wr := mW b cA u n m a ++ oW qo cL f) (As := [.int (xs (j + 1))]) (rest := []) ⟨hx, hb, hml, hown, hts⟩ (k5_drop l D c cA cC u n m lo a sl X _ (xs (j + 1)) hn) (cwV 1 hts gL_law_X5_drop rfl rfl rfl (by decide +kernel) ⟨Nat.le_of_ble_eq_true rfl, Nat.le_of_ble_eq_true rfl⟩) (va_recv hK.1 hP (ci := 5) (q0 := 0) rfl rfl) hP hD hS hA hKl (List.range 37) (List.range' 37 18) rfl rfl (by decide) (by decide) (by decide) rfl hl.1 rfl (Nat.le_of_ble_eq_true rfl) dL_law_355 hk (fun r1 x H locs hp hP hD hS => ?_)
  have hP : va_P D vwCl (cX c cA cC x ++ mW b cA u n m a ++ oW qo cL f) H := hP.sub (List.range' 18 37 ++ List.range 18) rfl
  have hD : va_D A (cX c cA cC x ++ mW b cA u n m a ++ oW qo cL f) := hD.sub (List.range' 18 37 ++ List.range 18) (by decide) rfl
  refine lv_aload_n hx hb dL_law_358 rfl (lv_at hl 2 rfl) ?_
  refine lv_aload_n hx hb dL_law_359 rfl (lv_at hl 0 rfl) ?_
  refine lv_iload hx hb dL_law_360 (lv_at hl 4 rfl) ?_
  refine lv_iconst (v := 1) hx hb dL_law_362 (by decide) ?_
  refine lv_iadd hx hb dL_law_363 ?_
  refine x_sld hx hb hX hbl hbA hS (j + 1) (nI_add j 1) (by omega) hL dL_law_364 ?_
  refine wcVi (S0 := mS) (wr := cX c cA cC x ++ oW qo cL f) (As := [.int (xs (j + 1))]) (rest := [.int r1]) ⟨hx, hb, hml, hown, hts⟩ (k6_drop l D b cA u n m a _ (xs (j + 1)) hn) (cwV 1 hts gL_law_X6_drop rfl rfl rfl (by decide +kernel) ⟨Nat.le_of_ble_eq_true rfl, Nat.le_of_ble_eq_true rfl⟩) (va_recv hK.1 hP (ci := 6) (q0 := 37) rfl rfl) hP hD hS hA hK1 (List.range' 37 17) (List.range 37 ++ [54]) rfl rfl (by decide) (by decide) (by decide) rfl hl.1 rfl (Nat.le_of_ble_eq_true rfl) dL_law_365 hk (fun r2 y H locs hp2 hP hD hS => ?_)
  have hP : va_P D vwCl (cX c cA cC x ++ mX b cA y ++ oW qo cL f) H := hP.sub (List.range 37 ++ List.range' 38 17 ++ [37]) rfl
  have hD : va_D A (cX c cA cC x ++ mX b cA y ++ oW qo cL f) := hD.sub (List.range 37 ++ List.range' 38 17 ++ [37]) (by decide) rfl
  have hm9 := mutDrop_c n (xs (j + 1)) (u, n, m, lo, a, sl, X) (u, n - 1, m, lo, rDrA a (xs (j + 1)).toNatClampNeg (n - 1 - (xs (j + 1)).toNatClampNeg), True, X) (va_up u 0 0, n, m, a) (va_up u 0 0, n - 1, m, rDrA a (xs (j + 1)).toNatClampNeg (n - 1 - (xs (j + 1)).toNatClampNeg))
  rw [← hp, ← hp2] at hm9
  have heq : r1 = r2 := hm9.1
  refine lv_icmp_eq (tgt := 732) hx hb dL_law_368 (by decide) (fun c_368 => ?_) (fun c_368 => ?_)
  · rcases hm9.2 with ⟨c1, ex, ey⟩ | ⟨ex, ey⟩
    · subst ex; subst ey
      rw [cX_c (c := c) (cA := cA) (cC := cC) (up_c u 0) (fun i _ _ => (rfl : rDrA a (xs (j + 1)).toNatClampNeg (n - 1 - (xs (j + 1)).toNatClampNeg) i = rDrA a (xs (j + 1)).toNatClampNeg (n - 1 - (xs (j + 1)).toNatClampNeg) i))] at hP hD
      exact J _ _ _ _ _ _ _ _ _ _ _ (LI_drop hI c1) (lv_sub hl [0, 1, 2, 3, 4] rfl) hP hD hS
    · subst ex; subst ey
      rw [cX_c (c := c) (cA := cA) (cC := cC) (up_c u 0) (fun i _ _ => (rfl : a i = a i))] at hP hD
      exact J _ _ _ _ _ _ _ _ _ _ _ (LI_q 0 hI (fun _ _ => rfl) hJ hLK) (lv_sub hl [0, 1, 2, 3, 4] rfl) hP hD hS
  · exact absurd heq c_368

set_option maxHeartbeats 4000000 in
set_option maxRecDepth 100000 in
theorem law_setting {p : Program} {l : Launch} {e : Env} {s : State} {mi : MethodId} {below : List Frame} {meth : Method} {cd : Code} {D : va_G} {c b : Nat → Nat} {cA cC cL : ClassId} {qo b0 L : Nat} {xs : Nat → Int32} {A : Nat → Prop} {zt sa : Nat} {Q : State → Prop} (C : LC p l s mi cd D cA cC cL b0 L xs A zt sa) (j k nn : Nat) (hj : j + 8 ≤ L) (hk : k + 1 ≤ 1080 ∧ nn + 6 ≤ 12356) (J : LH p l e s mi below meth cd D c b cA cC cL qo b0 A Q 732 j (k + 1) (nn + 6)) : LH p l e s mi below meth cd D c b cA cC cL qo b0 A Q 522 j k nn := by
  obtain ⟨hx, hb, hml, hown, hts, ⟨hX, hbl, hbA, hL⟩, hA, hK, hZ, hXK, hfl⟩ := C
  have hKl : kK D [(cA, .int), (cC, .object "StaffHeads$Chord")] s := ⟨hK.1.sub [0, 1] rfl, hK.2⟩
  have hK1 : kK D [(cA, .int)] s := ⟨hK.1.sub [0] rfl, hK.2⟩
  intro u n m a lo sl X f ls H locs hI hl hP hD hS
  obtain ⟨hW, hLo, hJ, hLK, hu2, hu3⟩ := id hI
  have hn : n ≤ 60 := hW.1
  have hm : m ≤ 12 := hW.2.1
  have hs4 := hs4_of hW
  refine W.widen (k := k + 1) (n := nn + 6) (Nat.le_succ _) (Nat.le_add_right _ _) ?_
  refine lv_aload_n hx hb dL_law_522 rfl (lv_at hl 1 rfl) ?_
  refine lv_aload_n hx hb dL_law_523 rfl (lv_at hl 0 rfl) ?_
  refine lv_iload hx hb dL_law_524 (lv_at hl 4 rfl) ?_
  refine lv_iconst (v := 1) hx hb dL_law_526 (by decide) ?_
  refine lv_iadd hx hb dL_law_527 ?_
  refine x_sld hx hb hX hbl hbA hS (j + 1) (nI_add j 1) (by omega) hL dL_law_528 ?_
  refine lv_aload_n hx hb dL_law_529 rfl (lv_at hl 0 rfl) ?_
  refine lv_iload hx hb dL_law_530 (lv_at hl 4 rfl) ?_
  refine lv_iconst (v := 2) hx hb dL_law_532 (by decide) ?_
  refine lv_iadd hx hb dL_law_533 ?_
  refine x_sld hx hb hX hbl hbA hS (j + 2) (nI_add j 2) (by omega) hL dL_law_534 ?_
  refine wcVi (S0 := cS) (wr := mW b cA u n m a ++ oW qo cL f) (As := [.int (xs (j + 1)), .int (xs (j + 2))]) (rest := []) ⟨hx, hb, hml, hown, hts⟩ (k5_setting l D c cA cC u n m lo a sl X _ (xs (j + 1)) (xs (j + 2))) (cwV 2 hts gL_law_X5_setting rfl rfl rfl (by decide +kernel) ⟨Nat.le_of_ble_eq_true rfl, Nat.le_of_ble_eq_true rfl⟩) (va_recv hK.1 hP (ci := 5) (q0 := 0) rfl rfl) hP hD hS hA hKl (List.range 37) (List.range' 37 18) rfl rfl (by decide) (by decide) (by decide) rfl hl.1 rfl (Nat.le_of_ble_eq_true rfl) dL_law_535 hk (fun r1 x H locs hp hP hD hS => ?_)
  have hP : va_P D vwCl (cX c cA cC x ++ mW b cA u n m a ++ oW qo cL f) H := hP.sub (List.range' 18 37 ++ List.range 18) rfl
  have hD : va_D A (cX c cA cC x ++ mW b cA u n m a ++ oW qo cL f) := hD.sub (List.range' 18 37 ++ List.range 18) (by decide) rfl
  refine lv_aload_n hx hb dL_law_538 rfl (lv_at hl 2 rfl) ?_
  refine lv_aload_n hx hb dL_law_539 rfl (lv_at hl 0 rfl) ?_
  refine lv_iload hx hb dL_law_540 (lv_at hl 4 rfl) ?_
  refine lv_iconst (v := 1) hx hb dL_law_542 (by decide) ?_
  refine lv_iadd hx hb dL_law_543 ?_
  refine x_sld hx hb hX hbl hbA hS (j + 1) (nI_add j 1) (by omega) hL dL_law_544 ?_
  refine lv_aload_n hx hb dL_law_545 rfl (lv_at hl 0 rfl) ?_
  refine lv_iload hx hb dL_law_546 (lv_at hl 4 rfl) ?_
  refine lv_iconst (v := 2) hx hb dL_law_548 (by decide) ?_
  refine lv_iadd hx hb dL_law_549 ?_
  refine x_sld hx hb hX hbl hbA hS (j + 2) (nI_add j 2) (by omega) hL dL_law_550 ?_
  refine wcVi (S0 := mS) (wr := cX c cA cC x ++ oW qo cL f) (As := [.int (xs (j + 1)), .int (xs (j + 2))]) (rest := [.int r1]) ⟨hx, hb, hml, hown, hts⟩ (k6_setting l D b cA u n m a _ (xs (j + 1)) (xs (j + 2))) (cwV 2 hts gL_law_X6_setting rfl rfl rfl (by decide +kernel) ⟨Nat.le_of_ble_eq_true rfl, Nat.le_of_ble_eq_true rfl⟩) (va_recv hK.1 hP (ci := 6) (q0 := 37) rfl rfl) hP hD hS hA hK1 (List.range' 37 17) (List.range 37 ++ [54]) rfl rfl (by decide) (by decide) (by decide) rfl hl.1 rfl (Nat.le_of_ble_eq_true rfl) dL_law_551 hk (fun r2 y H locs hp2 hP hD hS => ?_)
  have hP : va_P D vwCl (cX c cA cC x ++ mX b cA y ++ oW qo cL f) H := hP.sub (List.range 37 ++ List.range' 38 17 ++ [37]) rfl
  have hD : va_D A (cX c cA cC x ++ mX b cA y ++ oW qo cL f) := hD.sub (List.range 37 ++ List.range' 38 17 ++ [37]) (by decide) rfl
  have hm9 := mutSet_c (xs (j + 1)) (xs (j + 2)) (u 2) (u 3) (u, n, m, lo, a, sl, X) (va_up u 2 (xs (j + 2)), n, m, lo, a, sl, X) (va_up u 3 (xs (j + 2)), n, m, lo, a, sl, X) (va_up u 0 0, n, m, a) (va_up (va_up (va_up u 0 0) 2 (xs (j + 2))) 3 (u 3), n, m, a) (va_up (va_up (va_up u 0 0) 2 (u 2)) 3 (xs (j + 2)), n, m, a)
  rw [← hp, ← hp2] at hm9
  have heq : r1 = r2 := hm9.1
  refine lv_icmp_eq (tgt := 732) hx hb dL_law_554 (by decide) (fun c_554 => ?_) (fun c_554 => ?_)
  · rcases hm9.2 with ⟨c1, ex, ey⟩ | ⟨c1, ex, ey⟩ | ⟨ex, ey⟩
    · subst ex; subst ey
      rw [cX_c (c := c) (cA := cA) (cC := cC) (u := va_up u 2 (xs (j + 2))) (u' := va_up (va_up (va_up u 0 0) 2 (xs (j + 2))) 3 (u 3)) (fun i h1 h2 => by rcases (show i = 1 ∨ i = 2 ∨ i = 3 ∨ i = 4 by omega) with rfl | rfl | rfl | rfl <;> rfl) (fun i _ _ => (rfl : a i = a i))] at hP hD
      exact J _ _ _ _ _ _ _ _ _ _ _ (LI_u (u' := va_up (va_up (va_up u 0 0) 2 (xs (j + 2))) 3 (u 3)) hI (ok_int c1) hu3) (lv_sub hl [0, 1, 2, 3, 4] rfl) hP hD hS
    · subst ex; subst ey
      rw [cX_c (c := c) (cA := cA) (cC := cC) (u := va_up u 3 (xs (j + 2))) (u' := va_up (va_up (va_up u 0 0) 2 (u 2)) 3 (xs (j + 2))) (fun i h1 h2 => by rcases (show i = 1 ∨ i = 2 ∨ i = 3 ∨ i = 4 by omega) with rfl | rfl | rfl | rfl <;> rfl) (fun i _ _ => (rfl : a i = a i))] at hP hD
      exact J _ _ _ _ _ _ _ _ _ _ _ (LI_u (u' := va_up (va_up (va_up u 0 0) 2 (u 2)) 3 (xs (j + 2))) hI hu2 (ok_int c1)) (lv_sub hl [0, 1, 2, 3, 4] rfl) hP hD hS
    · subst ex; subst ey
      rw [cX_c (c := c) (cA := cA) (cC := cC) (up_c u 0) (fun i _ _ => (rfl : a i = a i))] at hP hD
      exact J _ _ _ _ _ _ _ _ _ _ _ (LI_q 0 hI (fun _ _ => rfl) hJ hLK) (lv_sub hl [0, 1, 2, 3, 4] rfl) hP hD hS
  · exact absurd heq c_554

set_option maxHeartbeats 4000000 in
set_option maxRecDepth 100000 in
theorem law_plain {p : Program} {l : Launch} {e : Env} {s : State} {mi : MethodId} {below : List Frame} {meth : Method} {cd : Code} {D : va_G} {c b : Nat → Nat} {cA cC cL : ClassId} {qo b0 L : Nat} {xs : Nat → Int32} {A : Nat → Prop} {zt sa : Nat} {Q : State → Prop} (C : LC p l s mi cd D cA cC cL b0 L xs A zt sa) (j k nn : Nat) (hj : j + 8 ≤ L) (hk : k + 1 ≤ 1080 ∧ nn + 6 ≤ 12356) (J : LH p l e s mi below meth cd D c b cA cC cL qo b0 A Q 732 j (k + 1) (nn + 6)) : LH p l e s mi below meth cd D c b cA cC cL qo b0 A Q 234 j k nn := by
  obtain ⟨hx, hb, hml, hown, hts, ⟨hX, hbl, hbA, hL⟩, hA, hK, hZ, hXK, hfl⟩ := C
  have hKl : kK D [(cA, .int), (cC, .object "StaffHeads$Chord")] s := ⟨hK.1.sub [0, 1] rfl, hK.2⟩
  have hK1 : kK D [(cA, .int)] s := ⟨hK.1.sub [0] rfl, hK.2⟩
  intro u n m a lo sl X f ls H locs hI hl hP hD hS
  obtain ⟨hW, hLo, hJ, hLK, hu2, hu3⟩ := id hI
  have hn : n ≤ 60 := hW.1
  have hm : m ≤ 12 := hW.2.1
  have hs4 := hs4_of hW
  refine W.widen (k := k + 1) (n := nn + 6) (Nat.le_succ _) (Nat.le_add_right _ _) ?_
  refine lv_aload_n hx hb dL_law_234 rfl (lv_at hl 1 rfl) ?_
  refine wcVi (S0 := cS) (wr := mW b cA u n m a ++ oW qo cL f) (As := []) (rest := []) ⟨hx, hb, hml, hown, hts⟩ (k5_plain l D c cA cC u n m lo a sl X _) (cwV 0 hts gL_law_X5_plain rfl rfl rfl (by decide +kernel) ⟨Nat.le_of_ble_eq_true rfl, Nat.le_of_ble_eq_true rfl⟩) (va_recv hK.1 hP (ci := 5) (q0 := 0) rfl rfl) hP hD hS hA hKl (List.range 37) (List.range' 37 18) rfl rfl (by decide) (by decide) (by decide) rfl hl.1 rfl (Nat.le_of_ble_eq_true rfl) dL_law_235 hk (fun r1 x H locs hp hP hD hS => ?_)
  have hP : va_P D vwCl (cX c cA cC x ++ mW b cA u n m a ++ oW qo cL f) H := hP.sub (List.range' 18 37 ++ List.range 18) rfl
  have hD : va_D A (cX c cA cC x ++ mW b cA u n m a ++ oW qo cL f) := hD.sub (List.range' 18 37 ++ List.range 18) (by decide) rfl
  obtain ⟨rfl, rfl⟩ := Prod.mk.inj hp
  refine lv_aload_n hx hb dL_law_238 rfl (lv_at hl 2 rfl) ?_
  refine wcVi (S0 := mS) (wr := cX c cA cC (u, n, 0, lo, a, True, X) ++ oW qo cL f) (As := []) (rest := [.int (nI m)]) ⟨hx, hb, hml, hown, hts⟩ (k6_plain l D b cA u n m a _) (cwV 0 hts gL_law_X6_plain rfl rfl rfl (by decide +kernel) ⟨Nat.le_of_ble_eq_true rfl, Nat.le_of_ble_eq_true rfl⟩) (va_recv hK.1 hP (ci := 6) (q0 := 37) rfl rfl) hP hD hS hA hK1 (List.range' 37 17) (List.range 37 ++ [54]) rfl rfl (by decide) (by decide) (by decide) rfl hl.1 rfl (Nat.le_of_ble_eq_true rfl) dL_law_239 hk (fun r2 y H locs hp2 hP hD hS => ?_)
  have hP : va_P D vwCl (cX c cA cC (u, n, 0, lo, a, True, X) ++ mX b cA y ++ oW qo cL f) H := hP.sub (List.range 37 ++ List.range' 38 17 ++ [37]) rfl
  have hD : va_D A (cX c cA cC (u, n, 0, lo, a, True, X) ++ mX b cA y ++ oW qo cL f) := hD.sub (List.range 37 ++ List.range' 38 17 ++ [37]) (by decide) rfl
  obtain ⟨rfl, rfl⟩ := Prod.mk.inj hp2
  refine lv_icmp_eq (tgt := 732) hx hb dL_law_242 (by decide) (fun c_242 => ?_) (fun c_242 => ?_)
  · rw [cX_c (c := c) (cA := cA) (cC := cC) (up_c u 0) (fun i _ _ => (rfl : a i = a i))] at hP hD
    exact J _ _ _ _ _ _ _ _ _ _ _ (LI_plain hI) (lv_sub hl [0, 1, 2, 3, 4] rfl) hP hD hS
  · exact absurd rfl c_242

set_option maxHeartbeats 4000000 in
set_option maxRecDepth 100000 in
theorem law_hides {p : Program} {l : Launch} {e : Env} {s : State} {mi : MethodId} {below : List Frame} {meth : Method} {cd : Code} {D : va_G} {c b : Nat → Nat} {cA cC cL : ClassId} {qo b0 L : Nat} {xs : Nat → Int32} {A : Nat → Prop} {zt sa : Nat} {Q : State → Prop} (C : LC p l s mi cd D cA cC cL b0 L xs A zt sa) (j k nn : Nat) (hj : j + 8 ≤ L) (hk : k + 1 ≤ 1080 ∧ nn + 6 ≤ 12356) (J : LH p l e s mi below meth cd D c b cA cC cL qo b0 A Q 732 j (k + 1) (nn + 6)) : LH p l e s mi below meth cd D c b cA cC cL qo b0 A Q 559 j k nn := by
  obtain ⟨hx, hb, hml, hown, hts, ⟨hX, hbl, hbA, hL⟩, hA, hK, hZ, hXK, hfl⟩ := C
  have hKl : kK D [(cA, .int), (cC, .object "StaffHeads$Chord")] s := ⟨hK.1.sub [0, 1] rfl, hK.2⟩
  have hK1 : kK D [(cA, .int)] s := ⟨hK.1.sub [0] rfl, hK.2⟩
  intro u n m a lo sl X f ls H locs hI hl hP hD hS
  obtain ⟨hW, hLo, hJ, hLK, hu2, hu3⟩ := id hI
  have hn : n ≤ 60 := hW.1
  have hm : m ≤ 12 := hW.2.1
  have hs4 := hs4_of hW
  refine W.widen (k := k + 1) (n := nn + 6) (Nat.le_succ _) (Nat.le_add_right _ _) ?_
  refine lv_aload_n hx hb dL_law_559 rfl (lv_at hl 1 rfl) ?_
  refine x_joinW (D := D) (A := A) (H0 := s.heap) 7 [(0, .ref b0), (1, .ref (c 0)), (2, .ref (b 0)), (3, .ref qo), (4, .int (nI j))] (cX c cA cC (u, n, m, lo, a, sl, X) ++ mW b cA u n m a ++ oW qo cL f) 574 [.int (bv (¬ xs (j + 1) = 0)), .ref (c 0)] ?_ (fun j_574 => ?_)
  · intro ls H locs hl hP hD hS
    refine wcVi (S0 := cS) (wr := mW b cA u n m a ++ oW qo cL f) (As := [.int (bv (¬ xs (j + 1) = 0))]) (rest := []) ⟨hx, hb, hml, hown, hts⟩ (k5_hides l D c cA cC u n m lo a sl X _ (¬ xs (j + 1) = 0)) (cwV 1 hts gL_law_X5_hides rfl rfl rfl (by decide +kernel) ⟨Nat.le_of_ble_eq_true rfl, Nat.le_of_ble_eq_true rfl⟩) (va_recv hK.1 hP (ci := 5) (q0 := 0) rfl rfl) hP hD hS hA hKl (List.range 37) (List.range' 37 18) rfl rfl (by decide) (by decide) (by decide) rfl hl.1 rfl (Nat.le_of_ble_eq_true rfl) dL_law_574 hk (fun r1 x H locs hp hP hD hS => ?_)
    have hP : va_P D vwCl (cX c cA cC x ++ mW b cA u n m a ++ oW qo cL f) H := hP.sub (List.range' 18 37 ++ List.range 18) rfl
    have hD : va_D A (cX c cA cC x ++ mW b cA u n m a ++ oW qo cL f) := hD.sub (List.range' 18 37 ++ List.range 18) (by decide) rfl
    obtain ⟨rfl, rfl⟩ := Prod.mk.inj hp
    refine lv_aload_n hx hb dL_law_577 rfl (lv_at hl 2 rfl) ?_
    refine x_joinW (D := D) (A := A) (H0 := s.heap) 7 [(0, .ref b0), (1, .ref (c 0)), (2, .ref (b 0)), (3, .ref qo), (4, .int (nI j))] (cX c cA cC (va_up u 4 (bv (¬ xs (j + 1) = 0)), n, m, lo, a, sl, X) ++ mW b cA u n m a ++ oW qo cL f) 592 [.int (bv (¬ xs (j + 1) = 0)), .ref (b 0), .int (if u 4 = 0 then 0 else 1)] ?_ (fun j_592 => ?_)
    · intro ls H locs hl hP hD hS
      refine wcVi (S0 := mS) (wr := cX c cA cC (va_up u 4 (bv (¬ xs (j + 1) = 0)), n, m, lo, a, sl, X) ++ oW qo cL f) (As := [.int (bv (¬ xs (j + 1) = 0))]) (rest := [.int (if u 4 = 0 then 0 else 1)]) ⟨hx, hb, hml, hown, hts⟩ (k6_hides l D b cA u n m a _ (¬ xs (j + 1) = 0)) (cwV 1 hts gL_law_X6_hides rfl rfl rfl (by decide +kernel) ⟨Nat.le_of_ble_eq_true rfl, Nat.le_of_ble_eq_true rfl⟩) (va_recv hK.1 hP (ci := 6) (q0 := 37) rfl rfl) hP hD hS hA hK1 (List.range' 37 17) (List.range 37 ++ [54]) rfl rfl (by decide) (by decide) (by decide) rfl hl.1 rfl (Nat.le_of_ble_eq_true rfl) dL_law_592 hk (fun r2 y H locs hp2 hP hD hS => ?_)
      have hP : va_P D vwCl (cX c cA cC (va_up u 4 (bv (¬ xs (j + 1) = 0)), n, m, lo, a, sl, X) ++ mX b cA y ++ oW qo cL f) H := hP.sub (List.range 37 ++ List.range' 38 17 ++ [37]) rfl
      have hD : va_D A (cX c cA cC (va_up u 4 (bv (¬ xs (j + 1) = 0)), n, m, lo, a, sl, X) ++ mX b cA y ++ oW qo cL f) := hD.sub (List.range 37 ++ List.range' 38 17 ++ [37]) (by decide) rfl
      obtain ⟨rfl, rfl⟩ := Prod.mk.inj hp2
      refine lv_icmp_eq (tgt := 732) hx hb dL_law_595 (by decide) (fun c_595 => ?_) (fun c_595 => ?_)
      · rw [cX_c (c := c) (cA := cA) (cC := cC) (u := va_up u 4 (bv (¬ xs (j + 1) = 0))) (u' := va_up (va_up u 0 0) 4 (bv (¬ xs (j + 1) = 0))) (fun i h1 h2 => by rcases (show i = 1 ∨ i = 2 ∨ i = 3 ∨ i = 4 by omega) with rfl | rfl | rfl | rfl <;> rfl) (fun i _ _ => (rfl : a i = a i))] at hP hD
        exact J _ _ _ _ _ _ _ _ _ _ _ (LI_u (u' := va_up (va_up u 0 0) 4 (bv (¬ xs (j + 1) = 0))) hI hu2 hu3) (lv_sub hl [0, 1, 2, 3, 4] rfl) hP hD hS
      · exact absurd rfl c_595
    refine lv_aload_n hx hb dL_law_578 rfl (lv_at hl 0 rfl) ?_
    refine lv_iload hx hb dL_law_579 (lv_at hl 4 rfl) ?_
    refine lv_iconst (v := 1) hx hb dL_law_581 (by decide) ?_
    refine lv_iadd hx hb dL_law_582 ?_
    refine x_sld hx hb hX hbl hbA hS (j + 1) (nI_add j 1) (by omega) hL dL_law_583 ?_
    refine lv_if_eq (tgt := 591) hx hb dL_law_584 (by decide) (fun c_584 => ?_) (fun c_584 => ?_)
    · refine lv_iconst (v := 0) hx hb dL_law_591 (by decide) ?_
      refine x_tp (y := bv (¬ xs (j + 1) = 0)) (bv_f (fun h => h c_584)).symm ?_
      exact j_592 _ _ _ (lv_sub hl [0, 1, 2, 3, 4] rfl) hP hD hS
    · refine lv_iconst (v := 1) hx hb dL_law_587 (by decide) ?_
      refine lv_goto (tgt := 592) hx hb dL_law_588 (by decide) ?_
      refine x_tp (y := bv (¬ xs (j + 1) = 0)) (bv_t c_584).symm ?_
      exact j_592 _ _ _ (lv_sub hl [0, 1, 2, 3, 4] rfl) hP hD hS
  refine lv_aload_n hx hb dL_law_560 rfl (lv_at hl 0 rfl) ?_
  refine lv_iload hx hb dL_law_561 (lv_at hl 4 rfl) ?_
  refine lv_iconst (v := 1) hx hb dL_law_563 (by decide) ?_
  refine lv_iadd hx hb dL_law_564 ?_
  refine x_sld hx hb hX hbl hbA hS (j + 1) (nI_add j 1) (by omega) hL dL_law_565 ?_
  refine lv_if_eq (tgt := 573) hx hb dL_law_566 (by decide) (fun c_566 => ?_) (fun c_566 => ?_)
  · refine lv_iconst (v := 0) hx hb dL_law_573 (by decide) ?_
    refine x_tp (y := bv (¬ xs (j + 1) = 0)) (bv_f (fun h => h c_566)).symm ?_
    exact j_574 _ _ _ (lv_sub hl [0, 1, 2, 3, 4] rfl) hP hD hS
  · refine lv_iconst (v := 1) hx hb dL_law_569 (by decide) ?_
    refine lv_goto (tgt := 574) hx hb dL_law_570 (by decide) ?_
    refine x_tp (y := bv (¬ xs (j + 1) = 0)) (bv_t c_566).symm ?_
    exact j_574 _ _ _ (lv_sub hl [0, 1, 2, 3, 4] rfl) hP hD hS
