/-! THE LAW'S START: what the entry gives -/
theorem wsL_law_x0 : ∀ w ∈ (vx_atS RX5 167 "java/lang/ArithmeticException" ["java/lang/RuntimeException", "java/lang/Exception"]).filter goodWord, w ∈ lw_tbl := by decide +kernel
theorem wsL_law_in : ∀ w ∈ wsL_law, w ∈ lw_tbl := app_r wsL_law_in0 wsL_law_x0
set_option maxRecDepth 20000 in
theorem st_K {args : Array Value} {s : State} (hts : ∀ w ∈ lw_tbl, w.before args s = true) : ∃ (D : va_G) (cA cC cL : ClassId), kK D (ty3 cA cC cL) s := by
  obtain ⟨c0, i0, h0⟩ := u_known hts inX0 (hts (.instantiable RX0 7) (List.mem_of_getElem? (i := 129) rfl))
  obtain ⟨c1, i1, h1⟩ := u_known hts inX1 (hts (.instantiable RX1 15) (List.mem_of_getElem? (i := 122) rfl))
  obtain ⟨c2, i2, h2⟩ := u_known hts inX2 (hts (.instantiable RX2 7) (List.mem_of_getElem? (i := 85) rfl))
  obtain ⟨c3, i3, h3⟩ := u_known hts inX3 (hts (.instantiable RX3 3) (List.mem_of_getElem? (i := 161) rfl))
  obtain ⟨c4, i4, h4⟩ := u_known hts inX4 (hts (.instantiable RX4 6) (List.mem_of_getElem? (i := 52) rfl))
  obtain ⟨c5, i5, h5⟩ := u_known hts inX5 (hts (.instantiable RX5 7) (List.mem_of_getElem? (i := 44) rfl))
  obtain ⟨c6, i6, h6⟩ := u_known hts inX6 (hts (.instantiable RX6 23) (List.mem_of_getElem? (i := 575) rfl))
  obtain ⟨cA, hA⟩ := tyI_of (hts (.arrayClass .int) (List.mem_of_getElem? (i := 83) rfl)) (fun C => by intro h; cases h)
  obtain ⟨cL, hL⟩ := tyI_of (hts (.arrayClass .long) (List.mem_of_getElem? (i := 815) rfl)) (fun C => by intro h; cases h)
  obtain ⟨cC, hC⟩ := tyC_of (va_AO.of (hts (.arrayOver (.object RX0)) (List.mem_of_getElem? (i := 128) rfl)))
  refine ⟨(fun c => match c with | 0 => c0 | 1 => c1 | 2 => c2 | 3 => c3 | 4 => c4 | 5 => c5 | _ => c6, fun c => match c with | 0 => i0 | 1 => i1 | 2 => i2 | 3 => i3 | 4 => i4 | 5 => i5 | _ => i6), cA, cC, cL, ⟨fun c q hq => ?_, fun k q hk => ?_⟩, ?_⟩
  · match c, hq with
    | 0, hq => cases hq; exact h0
    | 1, hq => cases hq; exact h1
    | 2, hq => cases hq; exact h2
    | 3, hq => cases hq; exact h3
    | 4, hq => cases hq; exact h4
    | 5, hq => cases hq; exact h5
    | 6, hq => cases hq; exact h6
    | n + 7, hq => cases hq
  · match k, hk with
    | 0, hk => cases hk; exact hA
    | 1, hk => cases hk; exact hC
    | 2, hk => cases hk; exact hL
    | n + 3, hk => cases hk
  · exact ⟨va_Nw.of rfl (hts _ (List.mem_of_getElem? (i := 86) rfl)), va_Nw.of rfl (hts _ (List.mem_of_getElem? (i := 123) rfl)), va_Nw.of rfl (hts _ (List.mem_of_getElem? (i := 130) rfl)), va_Nw.of rfl (hts _ (List.mem_of_getElem? (i := 162) rfl)), va_Nw.of rfl (hts _ (List.mem_of_getElem? (i := 329) rfl)), va_Nw.of rfl (hts _ (List.mem_of_getElem? (i := 304) rfl)), va_Nw.of rfl (hts _ (List.mem_of_getElem? (i := 328) rfl)), va_Nw.of rfl (hts _ (List.mem_of_getElem? (i := 61) rfl))⟩
abbrev tCN : Term := .static "StaffHeads" "CLEF_NUMBERS" "[I"
set_option maxRecDepth 20000 in
theorem st_Z {args : Array Value} {s : State} (hts : ∀ w ∈ lw_tbl, w.before args s = true) (hgv : (Jvm.Cond.and given_1 narrow_1).before args s = true) : ∃ zt : Nat, zK zt (fun q => s.heap.size ≤ q) s s.heap := by
  have hs := flat_of_before _ hgv
  have hA : ∀ a : Nat, a < s.heap.size → ¬ s.heap.size ≤ a := fun a h q => absurd h (Nat.not_lt.mpr q)
  have h1 : (Cond.arrayOf tCN .int).before args s = true := hs _ (by decide +kernel)
  have h2 : (Cond.eq (.length tCN) (.int 3)).before args s = true := hs _ (by decide +kernel)
  have h3 : (Cond.eq (.elem tCN (.int 0)) (.int 32)).before args s = true := hs _ (by decide +kernel)
  have h4 : (Cond.eq (.elem tCN (.int 1)) (.int 28)).before args s = true := hs _ (by decide +kernel)
  have h5 : (Cond.eq (.elem tCN (.int 2)) (.int 24)).before args s = true := hs _ (by decide +kernel)
  have e2 : (Term.length tCN).eval args s none [] s = some (.int 3) := Cond.eq_int h2 rfl
  have e3 : (Term.elem tCN (.int 0)).eval args s none [] s = some (.int 32) := Cond.eq_int h3 rfl
  have e4 : (Term.elem tCN (.int 1)).eval args s none [] s = some (.int 28) := Cond.eq_int h4 rfl
  have e5 : (Term.elem tCN (.int 2)).eval args s none [] s = some (.int 24) := Cond.eq_int h5 rfl
  obtain ⟨zt, ez, hT⟩ := va_Tof (N := 3) (f := zF) (A := fun q => s.heap.size ≤ q) (by decide) h1 e2 (fun j hj => by
    rcases (show j = 0 ∨ j = 1 ∨ j = 2 by omega) with rfl | rfl | rfl
    · exact e3
    · exact e4
    · exact e5) hA
  exact ⟨zt, va_Zof (hts (.laysStatic RX5 "CLEF_NUMBERS" "[I") (List.mem_of_getElem? (i := 62) rfl)) (hts (.initialized RX5) (wsL_law_in _ (List.mem_append_left _ (List.mem_of_getElem? (i := 2) rfl)))) ez hA, hT, va_AO.of (hts (.arrayOver (.object RX0)) (List.mem_of_getElem? (i := 128) rfl))⟩
set_option maxRecDepth 20000 in
theorem st_X {args : Array Value} {s : State} (hts : ∀ w ∈ lw_tbl, w.before args s = true) (hgv : (Jvm.Cond.and given_1 narrow_1).before args s = true) : ∃ sa : Nat, xK sa (fun q => s.heap.size ≤ q) s s.heap := by
  have hs := flat_of_before _ hgv
  have hA : ∀ a : Nat, a < s.heap.size → ¬ s.heap.size ≤ a := fun a h q => absurd h (Nat.not_lt.mpr q)
  have h1 : (Cond.exactly (.string "StaffHeads" 165) "java/lang/String").before args s = true := hs _ (by decide +kernel)
  have h2 : (Cond.isRef (.static Bundle.tN "UNASSIGNED_STACK" Bundle.steD)).before args s = true := hs _ (by decide +kernel)
  have h3 : (Cond.isRef (.static Bundle.tN "SUPPRESSED_SENTINEL" Bundle.listD)).before args s = true := hs _ (by decide +kernel)
  obtain ⟨sa, c, cell, k, e1, -⟩ := Cond.exactly_spec h1
  have hi : (Cond.initialized Bundle.tN).before args s = true := hts _ (List.mem_of_getElem? (i := 39) rfl)
  exact ⟨sa, ⟨vk_R.of (hts _ (List.mem_of_getElem? (i := 547) rfl)) e1, ⟨vx_Zqof (hts _ (List.mem_of_getElem? (i := 535) rfl)) hi h2 hA, vx_Zqof (hts _ (List.mem_of_getElem? (i := 537) rfl)) hi h3 hA⟩, va_Nw.of rfl (hts _ (List.mem_of_getElem? (i := 510) rfl)), va_Nw.of rfl (hts _ (List.mem_of_getElem? (i := 512) rfl)), va_Nw.of rfl (hts _ (List.mem_of_getElem? (i := 514) rfl)), va_Nw.of rfl (hts _ (List.mem_of_getElem? (i := 516) rfl))⟩⟩
section
variable {p : Program} {l : Launch} {e : Env} {R : Room} {s : State} {m : MethodId} {args : Array Value} {below : List Frame} {meth : Method} {c : Code} {H : Heap} {locs : List Loc} {cells slots : Nat} {Q : State → Prop} {cc : ByteArray} {pc : Nat} {ls : Array Slot} {rest st0 : List Value} {D : va_G} {A : Nat → Prop} {ws : va_W} {tys : List (ClassId × FieldType)}
/-- an array of longs is made -/
theorem x_newl {H0 : Heap} (hexec : p.tables.exec = Jvm.exec) (hb : c.code = cc) (harr : (Cond.arrayClass .long).before args s = true) (hK : kK D tys s) (hP : va_P D vwCl ws H) (hD : va_D A ws) (hS : va_S A H0 H locs) (hA : ∀ q, H0.size ≤ q → A q) (t0 : Nat) {cL : ClassId} (ht : tys[t0]? = some (cL, .long)) {nn : Int32} (N' : Nat) (hn : ¬ nn < 0) (hN : nn.toNatClampNeg = N') (hbytes : N' * componentBytes .long ≤ 536870912) (hcells : cells + 1 ≤ R.cells) (hslots : slots + N' ≤ R.slots) (hdg : decode cc pc = .ok (.newarray .long, 2))
    (kk : ∀ (q : Nat) (H1 : Heap), va_P D vwCl (ws ++ [(q, .inl (cL, N', .inr (.inl (fun _ => 0))))]) H1 → va_D A (ws ++ [(q, .inl (cL, N', .inr (.inl (fun _ => 0))))]) → va_S A H0 H1 locs → W p l e R s m args below meth c H1 locs (cells + 1) (slots + N') Q (F0 m (pc + 2) ls (.ref q :: rest))) : W p l e R s m args below meth c H locs cells slots Q (F0 m pc ls (.int nn :: rest)) := by
  refine va_newa (a0 := (N', .inr (.inl (fun _ => 0)))) hexec hb (atype := .long) harr rfl hK.1 hP hD hS hA (fun cA => rfl) hn hN hbytes hcells hslots hdg (fun q cA' H1 hK1 hP1 hD1 hS1 => ?_)
  have e1 : s.vm.findClass ("[" ++ (FieldType.long).toString) = some cA' := (hK1.2 tys.length (cA', .long) (by rw [List.getElem?_append_right (Nat.le_refl _), Nat.sub_self]; rfl)).2
  have e2 : s.vm.findClass ("[" ++ (FieldType.long).toString) = some cL := (hK.1.2 t0 (cL, .long) ht).2
  have e3 : cA' = cL := Option.some.inj (e1.symm.trans e2)
  subst e3
  exact kk q H1 hP1 hD1 hS1
/-- the law's cell(script, 0) -/
theorem x_cell {b L : Nat} {xs : Nat → Int32} (hx : p.tables.exec = Jvm.exec) (hb : c.code = cL_law) (hml : c.maxLocals = 7) (hown : s.vm.findClass RL = some m.cls) (hts : ∀ w ∈ wsL_law, w.before args s = true) (hX : va_X b L xs s s.heap) (hbl : b < s.heap.size) (hbA : ¬ A b) (hS : va_S A s.heap H locs) (hL : L ≤ 4097) (hR : R = room_1) (hsize : ls.size = 7) (hstack : st0 = [Value.int 0, .ref b] ++ rest) (hW : (rest.map fun v => v.category).sum ≤ 8) (hdg : decode cL_law pc = .ok (.invokestatic 15, 3)) (hf : cells ≤ R.cells ∧ slots ≤ R.slots)
    (kk : W p l e R s m args below meth c H locs cells slots Q (F0 m (pc + 3) ls (.int (if 0 < L then xs 0 else 0) :: rest))) : W p l e R s m args below meth c H locs cells slots Q (F0 m pc ls st0) := by
  subst hR
  exact vp_callSi (W.runS (As := [.ref b, .int 0]) ⟨hx, hb, hml, hown, hts⟩ (kL_cell l b L xs hL) (va_cwS 2 hts gL_law_L_cell rfl rfl rfl (by decide +kernel) ⟨Nat.le_of_ble_eq_true rfl, Nat.le_of_ble_eq_true rfl⟩) ⟨sPc_blind, fun U hU hW => ⟨rfl, by rw [hU]; exact va_X.moved hW.alike (hX.kept (hS.2.1 b hbl hbA)), by rw [hU]; exact Nat.lt_of_lt_of_le hbl hS.1⟩⟩ rfl rfl hsize hstack (lv_room hW) hdg hf) (fun r hr => by rw [hr]; exact kk)
end
