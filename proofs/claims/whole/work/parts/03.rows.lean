/-! ROWS: short forms of the kit's rows, for texts that a program writes -/
/-- a truth as an int -/
noncomputable def bv (P : Prop) : Int32 := @ite Int32 P (Classical.propDecidable P) 1 0
theorem bv_t {P : Prop} (h : P) : bv P = 1 := @if_pos P (Classical.propDecidable P) h Int32 1 0
theorem bv_f {P : Prop} (h : ¬ P) : bv P = 0 := @if_neg P (Classical.propDecidable P) h Int32 1 0
theorem bv_eq0 {P : Prop} : bv P = 0 ↔ ¬ P := by
  by_cases h : P
  · rw [bv_t h]; exact ⟨fun q => absurd q (by decide), fun q => absurd h q⟩
  · rw [bv_f h]; exact ⟨fun _ => h, fun _ => rfl⟩
theorem bv_eq1 {P : Prop} : bv P = 1 ↔ P := by
  by_cases h : P
  · rw [bv_t h]; exact ⟨fun _ => h, fun _ => rfl⟩
  · rw [bv_f h]; exact ⟨fun q => absurd q (by decide), fun q => absurd q h⟩
theorem bv_iff {P P' : Prop} (h : P ↔ P') : bv P = bv P' := by
  by_cases q : P
  · rw [bv_t q, bv_t (h.mp q)]
  · rw [bv_f q, bv_f (fun z => q (h.mpr z))]
theorem bv_nar {P : Prop} : narrow .boolean (.int (bv P)) = .int (bv P) := by
  by_cases h : P
  · rw [bv_t h]; rfl
  · rw [bv_f h]; rfl
theorem bv_fits {P : Prop} : fits .boolean (.int (bv P)) = true := by
  by_cases h : P
  · rw [bv_t h]; rfl
  · rw [bv_f h]; rfl
theorem bv_01 {P : Prop} : bv P = 0 ∨ bv P = 1 := by
  by_cases h : P
  · exact Or.inr (bv_t h)
  · exact Or.inl (bv_f h)
theorem x_inc (k : Nat) : nI k + Int32.ofInt 1 = nI (k + 1) := nI_1 k
/-- the words of the nest, that are carried -/
def nW (U : State) : Prop := va_Nw (.methodLinkNest RX5 18 yX2_init RX5) U ∧ va_Nw (.methodLinkNest RX5 25 yX1_init RX5) U ∧ va_Nw (.methodLinkNest RX1 54 yX0_init RX5) U ∧ va_Nw (.methodLinkNest RX1 61 yX3_init RX5) U ∧ va_Nw (.methodLinkNest RX1 90 yX5_cellOf RX5) U ∧ va_Nw (.methodLinkNest RX2 34 yX5_within RX5) U ∧ va_Nw (.methodLinkNest RX4 38 yX5_within RX5) U ∧ va_Nw (.fieldLinkNest RX4 35 RX5 "CLEF_NUMBERS" "[I" RX5) U
theorem nW.warm {s U : State} (hW : s.WarmedH U.vm) (h : nW s) : nW U := by
  obtain ⟨h1, h2, h3, h4, h5, h6, h7, h8⟩ := h
  exact ⟨h1.warmM hW, h2.warmM hW, h3.warmM hW, h4.warmM hW, h5.warmM hW, h6.warmM hW, h7.warmM hW, h8.warmF hW⟩
theorem nW.same {s U : State} (hv : s.vm = U.vm) (h : nW s) : nW U := by
  obtain ⟨h1, h2, h3, h4, h5, h6, h7, h8⟩ := h
  exact ⟨h1.same rfl hv, h2.same rfl hv, h3.same rfl hv, h4.same rfl hv, h5.same rfl hv, h6.same rfl hv, h7.same rfl hv, h8.same rfl hv⟩
/-- what the tables give, all that is carried from call to call -/
def kK (D : va_G) (tys : List (ClassId × FieldType)) (U : State) : Prop := va_K D vwCl tys U ∧ nW U
theorem kK.warm {D : va_G} {tys : List (ClassId × FieldType)} {s U : State} (hW : s.WarmedH U.vm) (h : kK D tys s) : kK D tys U := ⟨va_K.moved hW.alike h.1, h.2.warm hW⟩
/-- the start of a method that only reads -/
def rPc (D : va_G) (wd : va_W) (tys : List (ClassId × FieldType)) (av : List Value) : Array Value → State → Prop := va_Pc av (fun U => va_P D vwCl wd U.heap ∧ kK D tys U)
theorem rPc_blind {D : va_G} {wd : va_W} {tys : List (ClassId × FieldType)} {av : List Value} : FrameBlind (rPc D wd tys av) := by
  intro a U g mk q
  obtain ⟨q0, qP, qK, qN⟩ := q
  exact ⟨q0, qP, va_K.moved (u := U) (U := U.calling g mk a) (Vm.Alike.refl U.vm) qK, nW.same (s := U) (U := U.calling g mk a) rfl qN⟩
/-- the start of a method that writes its world -/
def wPc (D : va_G) (wd : va_W) (tys : List (ClassId × FieldType)) (sz : Nat) (av : List Value) : Array Value → State → Prop := va_Pc av (fun U => U.heap.size = sz ∧ va_P D vwCl wd U.heap ∧ va_D (fun _ => True) wd ∧ kK D tys U)
theorem wPc_blind {D : va_G} {wd : va_W} {tys : List (ClassId × FieldType)} {sz : Nat} {av : List Value} : FrameBlind (wPc D wd tys sz av) := by
  intro a U g mk q
  obtain ⟨q0, q1, qP, qD, qK, qN⟩ := q
  exact ⟨q0, q1, qP, qD, va_K.moved (u := U) (U := U.calling g mk a) (Vm.Alike.refl U.vm) qK, nW.same (s := U) (U := U.calling g mk a) rfl qN⟩
/-- the world behind a method, its state u a value of any kind -/
abbrev wB {S : Type} (D : va_G) (wd : va_W) (sz : Nat) (w1 : S → va_W) : S → State → Prop := fun u t => va_P D vwCl (w1 u) t.heap ∧ va_D (va_A wd sz) (w1 u)
section
variable {p : Program} {l : Launch} {e : Env} {R : Room} {s : State} {m : MethodId} {args : Array Value} {below : List Frame} {meth : Method} {c : Code} {H : Heap} {locs : List Loc} {cells slots : Nat} {Q : State → Prop} {cc : ByteArray} {pc : Nat} {ls : Array Slot} {rest st0 : List Value} {D : va_G} {tys : List (ClassId × FieldType)} {A : Nat → Prop} {ws : va_W}
theorem x_tp {x y : Int32} (h : x = y) (k : W p l e R s m args below meth c H locs cells slots Q (F0 m pc ls (.int y :: rest))) : W p l e R s m args below meth c H locs cells slots Q (F0 m pc ls (.int x :: rest)) := by rw [h]; exact k
theorem x_tpl {x y : Int64} (h : x = y) (k : W p l e R s m args below meth c H locs cells slots Q (F0 m pc ls (.long y :: rest))) : W p l e R s m args below meth c H locs cells slots Q (F0 m pc ls (.long x :: rest)) := by rw [h]; exact k
theorem x_tp2 {x y : Int32} {v : Value} (h : x = y) (k : W p l e R s m args below meth c H locs cells slots Q (F0 m pc ls (v :: .int y :: rest))) : W p l e R s m args below meth c H locs cells slots Q (F0 m pc ls (v :: .int x :: rest)) := by rw [h]; exact k
theorem x_ifeq (hexec : p.tables.exec = Jvm.exec) (hb : c.code = cc) {P : Prop} {off : Int} {tgt : Nat} (hdg : decode cc pc = .ok (.ifCond .eq off, 3)) (ht : (pc : Int) + off = (tgt : Int))
    (kt : ¬ P → W p l e R s m args below meth c H locs cells slots Q (F0 m tgt ls rest)) (kf : P → W p l e R s m args below meth c H locs cells slots Q (F0 m (pc + 3) ls rest)) : W p l e R s m args below meth c H locs cells slots Q (F0 m pc ls (.int (bv P) :: rest)) :=
  lv_if_eq hexec hb hdg ht (fun h => kt (bv_eq0.mp h)) (fun h => kf (Classical.not_not.mp (fun q => h (bv_eq0.mpr q))))
theorem x_ifne (hexec : p.tables.exec = Jvm.exec) (hb : c.code = cc) {P : Prop} {off : Int} {tgt : Nat} (hdg : decode cc pc = .ok (.ifCond .ne off, 3)) (ht : (pc : Int) + off = (tgt : Int))
    (kt : P → W p l e R s m args below meth c H locs cells slots Q (F0 m tgt ls rest)) (kf : ¬ P → W p l e R s m args below meth c H locs cells slots Q (F0 m (pc + 3) ls rest)) : W p l e R s m args below meth c H locs cells slots Q (F0 m pc ls (.int (bv P) :: rest)) :=
  lv_if_ne hexec hb hdg ht (fun h => kt (Classical.not_not.mp (fun q => h (bv_eq0.mpr q)))) (fun h => kf (bv_eq0.mp h))
theorem x_iald (hexec : p.tables.exec = Jvm.exec) (hb : c.code = cc) (hK : kK D tys s) (hP : va_P D vwCl ws H) (q0 t0 : Nat) {a : Nat} {cA : ClassId} {n : Nat} {f : Nat → Int32} (ha : ws[q0]? = some (a, .inl (cA, n, .inl f))) (ht : tys[t0]? = some (cA, .int)) {k : Nat} (hk : k < n) (hn : n < 2 ^ 31) (hdg : decode cc pc = .ok (.iaload, 1))
    (kk : W p l e R s m args below meth c H locs cells slots Q (F0 m (pc + 1) ls (.int (f k) :: rest))) : W p l e R s m args below meth c H locs cells slots Q (F0 m pc ls (.int (nI k) :: .ref a :: rest)) := by
  refine va_iald hexec hb hK.1 hP q0 t0 ha ht (vp_in_nI hk hn) hdg ?_
  rw [nI_clamp (Nat.lt_trans hk hn)]
  exact kk
theorem x_iast {H0 : Heap} (hexec : p.tables.exec = Jvm.exec) (hb : c.code = cc) (hK : kK D tys s) (hP : va_P D vwCl ws H) (hD : va_D A ws) (hS : va_S A H0 H locs) (q0 t0 : Nat) {a : Nat} {cA : ClassId} {n : Nat} {f : Nat → Int32} (ha : ws[q0]? = some (a, .inl (cA, n, .inl f))) (ht : tys[t0]? = some (cA, .int)) {k : Nat} {x : Int32} (hk : k < n) (hn : n < 2 ^ 31) (hdg : decode cc pc = .ok (.iastore, 1))
    (kk : ∀ (H1 : Heap) (locs1 : List Loc), va_P D vwCl (ws.set q0 (a, .inl (cA, n, .inl (upd f k x)))) H1 → va_D A (ws.set q0 (a, .inl (cA, n, .inl (upd f k x)))) → va_S A H0 H1 locs1 → W p l e R s m args below meth c H1 locs1 cells slots Q (F0 m (pc + 1) ls rest)) : W p l e R s m args below meth c H locs cells slots Q (F0 m pc ls (.int x :: .int (nI k) :: .ref a :: rest)) := by
  refine va_iast hexec hb hK.1 hP hD hS q0 t0 ha ht (vp_in_nI hk hn) hdg ?_
  rw [nI_clamp (Nat.lt_trans hk hn)]
  exact kk
variable {y : MethodName} {bytes : ByteArray} {maxL nL mc ms n index : Nat} {ret : Option FieldType} {wsy : List Cond} {rm : Room} {Ts : List Cond} {own C : String} {b : Addr} {As : List Value}
/-- a call of a method that only reads: an int comes -/
theorem rcVi {wd : va_W} {tyc : List (ClassId × FieldType)} {x : Int32} (S : CallFix p m c cc nL s args Ts own) (hM : Met l y wsy rm (rPc D wd tyc (.ref b :: As)) (vp_Si (fun r => r = x)) 0 0 (fun _ => False)) (cw : CallW R s args own C index y bytes maxL ret wsy rm 0 0 n) (hrecv : ∃ cellB : Cell, H[b]? = some cellB ∧ cellB.vm.isStatics = false ∧ s.vm.findClass C = some cellB.cls)
    (hP : va_P D vwCl wd H) (hK : kK D tyc s) (hn : As.length = n) (hsize : ls.size = nL) (hstack : st0 = As.reverse ++ .ref b :: rest) (hW : (rest.map fun v => v.category).sum ≤ 8) (hdg : decode cc pc = .ok (.invokevirtual index, 3)) (hf : cells ≤ R.cells ∧ slots ≤ R.slots)
    (kk : W p l e R s m args below meth c H locs cells slots Q (F0 m (pc + 3) ls (.int x :: rest))) : W p l e R s m args below meth c H locs cells slots Q (F0 m pc ls st0) :=
  vp_callSi (W.runV S hM cw ⟨rPc_blind, hrecv, fun U hU hW => ⟨rfl, by rw [hU]; exact hP, hK.warm hW⟩⟩ rfl hn hsize hstack (lv_room hW) hdg hf) (fun r hr => by rw [hr]; exact kk)
theorem rcVl {wd : va_W} {tyc : List (ClassId × FieldType)} {x : Int64} (S : CallFix p m c cc nL s args Ts own) (hM : Met l y wsy rm (rPc D wd tyc (.ref b :: As)) (vp_Sl (fun r => r = x)) 0 0 (fun _ => False)) (cw : CallW R s args own C index y bytes maxL ret wsy rm 0 0 n) (hrecv : ∃ cellB : Cell, H[b]? = some cellB ∧ cellB.vm.isStatics = false ∧ s.vm.findClass C = some cellB.cls)
    (hP : va_P D vwCl wd H) (hK : kK D tyc s) (hn : As.length = n) (hsize : ls.size = nL) (hstack : st0 = As.reverse ++ .ref b :: rest) (hW : (rest.map fun v => v.category).sum ≤ 8) (hdg : decode cc pc = .ok (.invokevirtual index, 3)) (hf : cells ≤ R.cells ∧ slots ≤ R.slots)
    (kk : W p l e R s m args below meth c H locs cells slots Q (F0 m (pc + 3) ls (.long x :: rest))) : W p l e R s m args below meth c H locs cells slots Q (F0 m pc ls st0) :=
  vp_callSl (W.runV S hM cw ⟨rPc_blind, hrecv, fun U hU hW => ⟨rfl, by rw [hU]; exact hP, hK.warm hW⟩⟩ rfl hn hsize hstack (lv_room hW) hdg hf) (fun r hr => by rw [hr]; exact kk)
/-- a static call of a method that has no world: an int comes -/
theorem rcSi {x : Int32} (S : CallFix p m c cc nL s args Ts own) (hM : Met l y wsy rm (fun v _ => v = As.toArray) (vp_Si (fun r => r = x)) 0 0 (fun _ => False)) (cw : CallB R s args own index y bytes maxL ret wsy rm 0 0 n ∧ (Cond.static y).before args s = true)
    (hn : As.length = n) (hsize : ls.size = nL) (hstack : st0 = As.reverse ++ rest) (hW : (rest.map fun v => v.category).sum ≤ 8) (hdg : decode cc pc = .ok (.invokestatic index, 3)) (hf : cells ≤ R.cells ∧ slots ≤ R.slots)
    (kk : W p l e R s m args below meth c H locs cells slots Q (F0 m (pc + 3) ls (.int x :: rest))) : W p l e R s m args below meth c H locs cells slots Q (F0 m pc ls st0) :=
  vp_callSi (W.runS S hM cw preEq rfl hn hsize hstack (lv_room hW) hdg hf) (fun r hr => by rw [hr]; exact kk)
theorem va_Run.toC {free : Addr → Prop} {Qa : State → Outcome → State → Prop} {g : JFrame} (h : va_Run p l e R s m args below meth c H locs cells slots mc ms g rest Qa free) : CallRun p l e R s m args below meth c H locs cells slots mc ms g rest Qa free := by
  intro T hT X
  obtain ⟨v, st, t, T', L, h0, X', hL, e1, -, hq, hg⟩ := h T hT X
  exact ⟨v, st, t, T', L, h0, X', hL, e1, hq, hg⟩
/-- .. of a nest mate's private one -/
theorem rcSNi {x : Int32} {host : String} (S : CallFix p m c cc nL s args Ts own) (hM : Met l y wsy rm (fun v _ => v = As.toArray) (vp_Si (fun r => r = x)) 0 0 (fun _ => False)) (cw : va_CN R s args own index y host bytes maxL ret wsy rm 0 0 n ∧ (Cond.static y).before args s = true ∧ True)
    (hn : As.length = n) (hsize : ls.size = nL) (hstack : st0 = As.reverse ++ rest) (hW : (rest.map fun v => v.category).sum ≤ 8) (hdg : decode cc pc = .ok (.invokestatic index, 3)) (hf : cells ≤ R.cells ∧ slots ≤ R.slots)
    (kk : W p l e R s m args below meth c H locs cells slots Q (F0 m (pc + 3) ls (.int x :: rest))) : W p l e R s m args below meth c H locs cells slots Q (F0 m pc ls st0) :=
  vp_callSi (va_Run.toC (va_runSN S hM cw preEq rfl hn hsize hstack (lv_room hW) hdg hf)) (fun r hr => by rw [hr]; exact kk)
/-- a call of a method that writes: its world wc is a part of ours (at isC), the rest (at isR) stays -/
theorem wcVi {S0 : Type} {wc wr : va_W} {w1 : S0 → va_W} {tyc : List (ClassId × FieldType)} {post : Int32 → S0 → Prop} {H0 : Heap} (S : CallFix p m c cc nL s args Ts own) (hM : Met l y wsy rm (wPc D wc tyc H.size (.ref b :: As)) (va_Qi post (wB D wc H.size w1) (va_A wc H.size)) mc ms (va_A wc H.size)) (cw : CallW R s args own C index y bytes maxL ret wsy rm mc ms n) (hrecv : ∃ cellB : Cell, H[b]? = some cellB ∧ cellB.vm.isStatics = false ∧ s.vm.findClass C = some cellB.cls)
    (hP : va_P D vwCl ws H) (hD : va_D A ws) (hS : va_S A H0 H locs) (hA : ∀ q, H0.size ≤ q → A q) (hK : kK D tyc s) (isC isR : List Nat) (hC : isC.map (fun i => ws[i]?) = wc.map some) (hR : isR.map (fun i => ws[i]?) = wr.map some) (hnC : va_nd isC = true) (hnR : va_nd isR = true) (hdis : ∀ i ∈ isR, i ∉ isC)
    (hn : As.length = n) (hsize : ls.size = nL) (hstack : st0 = As.reverse ++ .ref b :: rest) (hW : (rest.map fun v => v.category).sum ≤ 8) (hdg : decode cc pc = .ok (.invokevirtual index, 3)) (hf : cells + mc ≤ R.cells ∧ slots + ms ≤ R.slots)
    (kk : ∀ (r : Int32) (u : S0) (H1 : Heap) (locs1 : List Loc), post r u → va_P D vwCl (wr ++ w1 u) H1 → va_D A (wr ++ w1 u) → va_S A H0 H1 locs1 → W p l e R s m args below meth c H1 locs1 (cells + mc) (slots + ms) Q (F0 m (pc + 3) ls (.int r :: rest))) : W p l e R s m args below meth c H locs cells slots Q (F0 m pc ls st0) := by
  have hDc := hD.sub (ws' := wc) isC hnC hC
  have hPc : va_P D vwCl wc H := fun k q hk => by
    have h1 : (isC.map (fun i => ws[i]?))[k]? = some (some q) := by rw [hC, List.getElem?_map, hk]; rfl
    rw [List.getElem?_map] at h1
    cases hi : isC[k]? with
    | none => rw [hi] at h1; cases h1
    | some i => rw [hi] at h1; exact hP i q (Option.some.inj h1)
  have hFc := va_free (wc := wc) hD hS hA isC hC
  refine va_calli (va_runV S hM cw ⟨wPc_blind, hrecv, fun U hU hW => ⟨rfl, by rw [hU], by rw [hU]; exact hPc, hDc.weaken (fun _ _ _ _ => trivial), hK.warm hW⟩⟩ rfl hn hsize hstack (lv_room hW) hdg hf) hS (fun q _ h => hFc q h) hFc (fun r u t H1 locs1 ht hvm hp hB hz1 hk1 hS1 => ?_)
  obtain ⟨hP1, hD1⟩ := hB
  rw [ht] at hP1
  obtain ⟨hP2, hD2⟩ := va_join (wr := wr) (w1 := w1 u) hP hD isC isR hC hR hnR hdis hk1 hFc hP1 hD1
  exact kk r u H1 locs1 hp hP2 hD2 hS1
theorem wcVl {S0 : Type} {wc wr : va_W} {w1 : S0 → va_W} {tyc : List (ClassId × FieldType)} {post : Int64 → S0 → Prop} {H0 : Heap} (S : CallFix p m c cc nL s args Ts own) (hM : Met l y wsy rm (wPc D wc tyc H.size (.ref b :: As)) (va_Ql post (wB D wc H.size w1) (va_A wc H.size)) mc ms (va_A wc H.size)) (cw : CallW R s args own C index y bytes maxL ret wsy rm mc ms n) (hrecv : ∃ cellB : Cell, H[b]? = some cellB ∧ cellB.vm.isStatics = false ∧ s.vm.findClass C = some cellB.cls)
    (hP : va_P D vwCl ws H) (hD : va_D A ws) (hS : va_S A H0 H locs) (hA : ∀ q, H0.size ≤ q → A q) (hK : kK D tyc s) (isC isR : List Nat) (hC : isC.map (fun i => ws[i]?) = wc.map some) (hR : isR.map (fun i => ws[i]?) = wr.map some) (hnC : va_nd isC = true) (hnR : va_nd isR = true) (hdis : ∀ i ∈ isR, i ∉ isC)
    (hn : As.length = n) (hsize : ls.size = nL) (hstack : st0 = As.reverse ++ .ref b :: rest) (hW : (rest.map fun v => v.category).sum ≤ 8) (hdg : decode cc pc = .ok (.invokevirtual index, 3)) (hf : cells + mc ≤ R.cells ∧ slots + ms ≤ R.slots)
    (kk : ∀ (r : Int64) (u : S0) (H1 : Heap) (locs1 : List Loc), post r u → va_P D vwCl (wr ++ w1 u) H1 → va_D A (wr ++ w1 u) → va_S A H0 H1 locs1 → W p l e R s m args below meth c H1 locs1 (cells + mc) (slots + ms) Q (F0 m (pc + 3) ls (.long r :: rest))) : W p l e R s m args below meth c H locs cells slots Q (F0 m pc ls st0) := by
  have hDc := hD.sub (ws' := wc) isC hnC hC
  have hPc : va_P D vwCl wc H := fun k q hk => by
    have h1 : (isC.map (fun i => ws[i]?))[k]? = some (some q) := by rw [hC, List.getElem?_map, hk]; rfl
    rw [List.getElem?_map] at h1
    cases hi : isC[k]? with
    | none => rw [hi] at h1; cases h1
    | some i => rw [hi] at h1; exact hP i q (Option.some.inj h1)
  have hFc := va_free (wc := wc) hD hS hA isC hC
  refine va_calll (va_runV S hM cw ⟨wPc_blind, hrecv, fun U hU hW => ⟨rfl, by rw [hU], by rw [hU]; exact hPc, hDc.weaken (fun _ _ _ _ => trivial), hK.warm hW⟩⟩ rfl hn hsize hstack (lv_room hW) hdg hf) hS (fun q _ h => hFc q h) hFc (fun r u t H1 locs1 ht hvm hp hB hz1 hk1 hS1 => ?_)
  obtain ⟨hP1, hD1⟩ := hB
  rw [ht] at hP1
  obtain ⟨hP2, hD2⟩ := va_join (wr := wr) (w1 := w1 u) hP hD isC isR hC hR hnR hdis hk1 hFc hP1 hD1
  exact kk r u H1 locs1 hp hP2 hD2 hS1
theorem wcVv {S0 : Type} {wc wr : va_W} {w1 : S0 → va_W} {tyc : List (ClassId × FieldType)} {post : S0 → Prop} {H0 : Heap} (S : CallFix p m c cc nL s args Ts own) (hM : Met l y wsy rm (wPc D wc tyc H.size (.ref b :: As)) (va_Qv post (wB D wc H.size w1) (va_A wc H.size)) mc ms (va_A wc H.size)) (cw : CallW R s args own C index y bytes maxL ret wsy rm mc ms n) (hrecv : ∃ cellB : Cell, H[b]? = some cellB ∧ cellB.vm.isStatics = false ∧ s.vm.findClass C = some cellB.cls)
    (hP : va_P D vwCl ws H) (hD : va_D A ws) (hS : va_S A H0 H locs) (hA : ∀ q, H0.size ≤ q → A q) (hK : kK D tyc s) (isC isR : List Nat) (hC : isC.map (fun i => ws[i]?) = wc.map some) (hR : isR.map (fun i => ws[i]?) = wr.map some) (hnC : va_nd isC = true) (hnR : va_nd isR = true) (hdis : ∀ i ∈ isR, i ∉ isC)
    (hn : As.length = n) (hsize : ls.size = nL) (hstack : st0 = As.reverse ++ .ref b :: rest) (hW : (rest.map fun v => v.category).sum ≤ 8) (hdg : decode cc pc = .ok (.invokevirtual index, 3)) (hf : cells + mc ≤ R.cells ∧ slots + ms ≤ R.slots)
    (kk : ∀ (u : S0) (H1 : Heap) (locs1 : List Loc), post u → va_P D vwCl (wr ++ w1 u) H1 → va_D A (wr ++ w1 u) → va_S A H0 H1 locs1 → W p l e R s m args below meth c H1 locs1 (cells + mc) (slots + ms) Q (F0 m (pc + 3) ls rest)) : W p l e R s m args below meth c H locs cells slots Q (F0 m pc ls st0) := by
  have hDc := hD.sub (ws' := wc) isC hnC hC
  have hPc : va_P D vwCl wc H := fun k q hk => by
    have h1 : (isC.map (fun i => ws[i]?))[k]? = some (some q) := by rw [hC, List.getElem?_map, hk]; rfl
    rw [List.getElem?_map] at h1
    cases hi : isC[k]? with
    | none => rw [hi] at h1; cases h1
    | some i => rw [hi] at h1; exact hP i q (Option.some.inj h1)
  have hFc := va_free (wc := wc) hD hS hA isC hC
  refine va_callv (va_runV S hM cw ⟨wPc_blind, hrecv, fun U hU hW => ⟨rfl, by rw [hU], by rw [hU]; exact hPc, hDc.weaken (fun _ _ _ _ => trivial), hK.warm hW⟩⟩ rfl hn hsize hstack (lv_room hW) hdg hf) hS (fun q _ h => hFc q h) hFc (fun u t H1 locs1 ht hvm hp hB hz1 hk1 hS1 => ?_)
  obtain ⟨hP1, hD1⟩ := hB
  rw [ht] at hP1
  obtain ⟨hP2, hD2⟩ := va_join (wr := wr) (w1 := w1 u) hP hD isC isR hC hR hnR hdis hk1 hFc hP1 hD1
  exact kk u H1 locs1 hp hP2 hD2 hS1
/-- the ends of a method that only reads -/
theorem r_iret {post : Int32 → Prop} {x : Int32} (hexec : p.tables.exec = Jvm.exec) (hb : c.code = cc) (hr : meth.sig.returnType = some .int) (hlocks : meth.locks = false) (hp : post x) (hdg : decode cc pc = .ok (.ireturn, 1)) : W p l e R s m args below meth c s.heap [] 0 0 (MQ below (vp_Si post) args s 0 0 (fun _ => False)) (F0 m pc ls [.int x]) :=
  W.iret hexec hb hr (fun t ht _ => ⟨x, rfl, hp, ht⟩) (fun q h => by cases h) hdg hlocks
theorem r_zret {post : Int32 → Prop} {x : Int32} (hexec : p.tables.exec = Jvm.exec) (hb : c.code = cc) (hr : meth.sig.returnType = some .boolean) (hlocks : meth.locks = false) (hnar : narrow .boolean (.int x) = .int x) (hp : post x) (hdg : decode cc pc = .ok (.ireturn, 1)) : W p l e R s m args below meth c s.heap [] 0 0 (MQ below (vp_Si post) args s 0 0 (fun _ => False)) (F0 m pc ls [.int x]) :=
  W.zret hexec hb hr hnar (fun t ht _ => ⟨x, rfl, hp, ht⟩) (fun q h => by cases h) hdg hlocks
theorem r_lret {post : Int64 → Prop} {x : Int64} (hexec : p.tables.exec = Jvm.exec) (hb : c.code = cc) (hr : meth.sig.returnType = some .long) (hlocks : meth.locks = false) (hp : post x) (hdg : decode cc pc = .ok (.lreturn, 1)) : W p l e R s m args below meth c s.heap [] 0 0 (MQ below (vp_Sl post) args s 0 0 (fun _ => False)) (F0 m pc ls [.long x]) :=
  W.lret hexec hb hr (fun t ht _ => ⟨x, rfl, hp, ht⟩) (fun q h => by cases h) hdg hlocks
/-- the ends of a method that writes -/
theorem w_iret {S0 : Type} {wd : va_W} {sz : Nat} {post : Int32 → S0 → Prop} {w1 : S0 → va_W} {x : Int32} (u : S0) (hexec : p.tables.exec = Jvm.exec) (hb : c.code = cc) (hr : meth.sig.returnType = some .int) (hlocks : meth.locks = false) (hP : va_P D vwCl (w1 u) H) (hD : va_D (va_A wd sz) (w1 u)) (hS : va_S (va_A wd sz) s.heap H locs) (hp : post x u) (hdg : decode cc pc = .ok (.ireturn, 1)) : W p l e R s m args below meth c H locs cells slots (MQ below (va_Qi post (wB D wd sz w1) (va_A wd sz)) args s cells slots (va_A wd sz)) (F0 m pc ls [.int x]) :=
  W.iret hexec hb hr (fun t ht _ => ⟨⟨x, u, rfl, hp, by rw [ht]; exact hP, hD⟩, hS.F ht⟩) hS.2.2 hdg hlocks
theorem w_lret {S0 : Type} {wd : va_W} {sz : Nat} {post : Int64 → S0 → Prop} {w1 : S0 → va_W} {x : Int64} (u : S0) (hexec : p.tables.exec = Jvm.exec) (hb : c.code = cc) (hr : meth.sig.returnType = some .long) (hlocks : meth.locks = false) (hP : va_P D vwCl (w1 u) H) (hD : va_D (va_A wd sz) (w1 u)) (hS : va_S (va_A wd sz) s.heap H locs) (hp : post x u) (hdg : decode cc pc = .ok (.lreturn, 1)) : W p l e R s m args below meth c H locs cells slots (MQ below (va_Ql post (wB D wd sz w1) (va_A wd sz)) args s cells slots (va_A wd sz)) (F0 m pc ls [.long x]) :=
  W.lret hexec hb hr (fun t ht _ => ⟨⟨x, u, rfl, hp, by rw [ht]; exact hP, hD⟩, hS.F ht⟩) hS.2.2 hdg hlocks
theorem w_vret {S0 : Type} {wd : va_W} {sz : Nat} {post : S0 → Prop} {w1 : S0 → va_W} (u : S0) (hexec : p.tables.exec = Jvm.exec) (hb : c.code = cc) (hr : meth.sig.returnType = none) (hlocks : meth.locks = false) (hP : va_P D vwCl (w1 u) H) (hD : va_D (va_A wd sz) (w1 u)) (hS : va_S (va_A wd sz) s.heap H locs) (hp : post u) (hdg : decode cc pc = .ok (.return_, 1)) : W p l e R s m args below meth c H locs cells slots (MQ below (va_Qv post (wB D wd sz w1) (va_A wd sz)) args s cells slots (va_A wd sz)) (F0 m pc ls []) :=
  W.vret hexec hb hr (fun t ht _ => ⟨⟨u, rfl, hp, by rw [ht]; exact hP, hD⟩, hS.F ht⟩) hS.2.2 hdg hlocks
end
/-- the heads of methods -/
theorem r_head {l : Launch} {y : MethodName} {wsy ws' : List Cond} {rm : Room} {D : va_G} {wd : va_W} {tys : List (ClassId × FieldType)} {av : List Value} {Qc : Array Value → State → Outcome → State → Prop} {cc : ByteArray} {maxL : Nat} {ret : Option FieldType} {C : String} (lv : List (Nat × Value))
    (hy : plainName y.cls = true) (hw : wsy = Cond.code y cc maxL ret :: ws') (hC : y.cls = C) (hlen : (lg_sl av).length ≤ maxL) (hlv : lv_args 0 av = lv)
    (body : ∀ (p : Program) (e : Env) (s : State) (m : MethodId) (below : List Frame) (meth : Method) (c : Code), p.tables.exec = Jvm.exec → c.code = cc → meth.sig.returnType = ret → meth.locks = false → c.maxLocals = maxL → s.vm.findClass C = some m.cls → (∀ w ∈ wsy, w.before av.toArray s = true) → va_P D vwCl wd s.heap → kK D tys s →
      ∀ ls : Array Slot, lv_has ls maxL lv → W p l e (headSpec wsy rm).room s m av.toArray below meth c s.heap [] 0 0 (MQ below Qc av.toArray s 0 0 (fun _ => False)) (F0 m 0 ls [])) : Met l y wsy rm (rPc D wd tys av) Qc 0 0 (fun _ => False) := by
  refine Met.ofW (cc := cc) (maxL := maxL) (ret := ret) hy hw ?_
  intro p e s m args below meth c s₁ B hml hv
  obtain ⟨rfl, hP, hK⟩ := hv
  have hts := atoms_spec (ws := wsy) B.pre
  have hown : s.vm.findClass C = some m.cls := hC ▸ findClass_of_methodNamed B.named
  rw [lg_entry_eq]
  exact body p e s m below meth c B.exec B.bytes B.returns B.notSynchronized hml hown hts hP hK _ (hlv ▸ lv_entry av hlen)
theorem s_head {l : Launch} {y : MethodName} {wsy ws' : List Cond} {rm : Room} {av : List Value} {Qc : Array Value → State → Outcome → State → Prop} {cc : ByteArray} {maxL : Nat} {ret : Option FieldType} {C : String} (lv : List (Nat × Value))
    (hy : plainName y.cls = true) (hw : wsy = Cond.code y cc maxL ret :: ws') (hC : y.cls = C) (hlen : (lg_sl av).length ≤ maxL) (hlv : lv_args 0 av = lv)
    (body : ∀ (p : Program) (e : Env) (s : State) (m : MethodId) (below : List Frame) (meth : Method) (c : Code), p.tables.exec = Jvm.exec → c.code = cc → meth.sig.returnType = ret → meth.locks = false → c.maxLocals = maxL → s.vm.findClass C = some m.cls → (∀ w ∈ wsy, w.before av.toArray s = true) →
      ∀ ls : Array Slot, lv_has ls maxL lv → W p l e (headSpec wsy rm).room s m av.toArray below meth c s.heap [] 0 0 (MQ below Qc av.toArray s 0 0 (fun _ => False)) (F0 m 0 ls [])) : Met l y wsy rm (fun v _ => v = av.toArray) Qc 0 0 (fun _ => False) := by
  refine Met.ofW (cc := cc) (maxL := maxL) (ret := ret) hy hw ?_
  intro p e s m args below meth c s₁ B hml hv
  obtain rfl := hv
  have hts := atoms_spec (ws := wsy) B.pre
  have hown : s.vm.findClass C = some m.cls := hC ▸ findClass_of_methodNamed B.named
  rw [lg_entry_eq]
  exact body p e s m below meth c B.exec B.bytes B.returns B.notSynchronized hml hown hts _ (hlv ▸ lv_entry av hlen)
theorem w_head {l : Launch} {y : MethodName} {wsy ws' : List Cond} {rm : Room} {D : va_G} {wd : va_W} {tys : List (ClassId × FieldType)} {sz : Nat} {av : List Value} {Qc : Array Value → State → Outcome → State → Prop} {mc ms : Nat} {cc : ByteArray} {maxL : Nat} {ret : Option FieldType} {C : String} (lv : List (Nat × Value))
    (hy : plainName y.cls = true) (hw : wsy = Cond.code y cc maxL ret :: ws') (hC : y.cls = C) (hlen : (lg_sl av).length ≤ maxL) (hlv : lv_args 0 av = lv)
    (body : ∀ (p : Program) (e : Env) (s : State) (m : MethodId) (below : List Frame) (meth : Method) (c : Code), p.tables.exec = Jvm.exec → c.code = cc → meth.sig.returnType = ret → meth.locks = false → c.maxLocals = maxL → s.vm.findClass C = some m.cls → meth.name = y.name → (∀ w ∈ wsy, w.before av.toArray s = true) → va_P D vwCl wd s.heap → va_D (va_A wd sz) wd → va_S (va_A wd sz) s.heap s.heap [] → (∀ q : Nat, s.heap.size ≤ q → va_A wd sz q) → kK D tys s →
      ∀ ls : Array Slot, lv_has ls maxL lv → W p l e (headSpec wsy rm).room s m av.toArray below meth c s.heap [] 0 0 (MQ below Qc av.toArray s mc ms (va_A wd sz)) (F0 m 0 ls [])) : Met l y wsy rm (wPc D wd tys sz av) Qc mc ms (va_A wd sz) := by
  refine Met.ofW (cc := cc) (maxL := maxL) (ret := ret) hy hw ?_
  intro p e s m args below meth c s₁ B hml hv
  obtain ⟨rfl, hsz, hP, hD, hK⟩ := hv
  have hts := atoms_spec (ws := wsy) B.pre
  have hown : s.vm.findClass C = some m.cls := hC ▸ findClass_of_methodNamed B.named
  rw [lg_entry_eq]
  exact body p e s m below meth c B.exec B.bytes B.returns B.notSynchronized hml hown (name_of_methodNamed B.named B.method).1 hts hP hD.self va_S.rf (fun q h => Or.inr (by rw [← hsz]; exact h)) hK _ (hlv ▸ lv_entry av hlen)
/-- a loop that only reads: its locals at the i-th head are lvf i g, g of any kind; I holds there -/
theorem lpR {σ : Type} {G : Array Slot → Prop} (nL N : Nat) (lvf : Nat → σ → List (Nat × Value)) (I : Nat → σ → Prop)
    (body : ∀ (i : Nat) (g : σ), i ≤ N → I i g → ∀ ls : Array Slot, lv_has ls nL (lvf i g) → (i < N → ∀ (g' : σ) (ls' : Array Slot), I (i + 1) g' → lv_has ls' nL (lvf (i + 1) g') → G ls') → G ls)
    {ls : Array Slot} (i0 : Nat) (g0 : σ) (hi : i0 ≤ N) (hI : I i0 g0) (hl : lv_has ls nL (lvf i0 g0)) : G ls := by
  have key : ∀ (d i : Nat) (g : σ) (ls : Array Slot), N - i < d → i ≤ N → I i g → lv_has ls nL (lvf i g) → G ls := by
    intro d
    induction d with
    | zero => intro i g ls h; exact absurd h (Nat.not_lt_zero _)
    | succ d ih => intro i g ls hd hi hI hl; exact body i g hi hI ls hl (fun hlt g' ls' hI' hl' => ih (i + 1) g' ls' (by omega) (by omega) hI' hl')
  exact key (N - i0 + 1) i0 g0 ls (by omega) hi hI hl
/-- a loop that writes: its world is wf i g too -/
theorem lpW {σ : Type} {G : Array Slot → Heap → List Loc → Prop} {D : va_G} {A : Nat → Prop} {H0 : Heap} (nL N : Nat) (lvf : Nat → σ → List (Nat × Value)) (wf : Nat → σ → va_W) (I : Nat → σ → Prop)
    (body : ∀ (i : Nat) (g : σ), i ≤ N → I i g → ∀ (ls : Array Slot) (H : Heap) (locs : List Loc), lv_has ls nL (lvf i g) → va_P D vwCl (wf i g) H → va_D A (wf i g) → va_S A H0 H locs → (i < N → ∀ (g' : σ) (ls' : Array Slot) (H' : Heap) (locs' : List Loc), I (i + 1) g' → lv_has ls' nL (lvf (i + 1) g') → va_P D vwCl (wf (i + 1) g') H' → va_D A (wf (i + 1) g') → va_S A H0 H' locs' → G ls' H' locs') → G ls H locs)
    {ls : Array Slot} {H : Heap} {locs : List Loc} (i0 : Nat) (g0 : σ) (hi : i0 ≤ N) (hI : I i0 g0) (hl : lv_has ls nL (lvf i0 g0)) (hP : va_P D vwCl (wf i0 g0) H) (hD : va_D A (wf i0 g0)) (hS : va_S A H0 H locs) : G ls H locs := by
  have key : ∀ (d i : Nat) (g : σ) (ls : Array Slot) (H : Heap) (locs : List Loc), N - i < d → i ≤ N → I i g → lv_has ls nL (lvf i g) → va_P D vwCl (wf i g) H → va_D A (wf i g) → va_S A H0 H locs → G ls H locs := by
    intro d
    induction d with
    | zero => intro i g ls H locs h; exact absurd h (Nat.not_lt_zero _)
    | succ d ih => intro i g ls H locs hd hi hI hl hP hD hS; exact body i g hi hI ls H locs hl hP hD hS (fun hlt g' ls' H' locs' hI' hl' hP' hD' hS' => ih (i + 1) g' ls' H' locs' (by omega) (by omega) hI' hl' hP' hD' hS')
  exact key (N - i0 + 1) i0 g0 ls H locs (by omega) hi hI hl hP hD hS
