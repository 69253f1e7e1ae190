/-! ROWS of the law: its script, its long, its own methods -/
abbrev oW (qo : Nat) (cL : ClassId) (f : Nat → Int64) : va_W := [(qo, .inl (cL, 1, .inr (.inl f)))]
section
variable {p : Program} {l : Launch} {e : Env} {R : Room} {s : State} {m : MethodId} {args : Array Value} {below : List Frame} {meth : Method} {c : Code} {H : Heap} {locs : List Loc} {cells slots : Nat} {Q : State → Prop} {cc : ByteArray} {pc : Nat} {ls : Array Slot} {rest st0 : List Value} {D : va_G} {A : Nat → Prop} {ws : va_W} {H0 : Heap}
theorem x_sld (hexec : p.tables.exec = Jvm.exec) (hb : c.code = cc) {b L : Nat} {xs : Nat → Int32} (hX : va_X b L xs s H0) (hbl : b < H0.size) (hbA : ¬ A b) (hS : va_S A H0 H locs) {j : Int32} (k : Nat) (hj : j = nI k) (hk : k < L) (hL : L ≤ 4097) (hdg : decode cc pc = .ok (.iaload, 1))
    (kk : W p l e R s m args below meth c H locs cells slots Q (F0 m (pc + 1) ls (.int (xs k) :: rest))) : W p l e R s m args below meth c H locs cells slots Q (F0 m pc ls (.int j :: .ref b :: rest)) := by
  subst hj
  refine va_sld hexec hb hX hbl hbA hS (vp_in_nI hk (by omega)) hdg ?_
  rw [nI_clamp (by omega)]
  exact kk
theorem x_lcmp (hexec : p.tables.exec = Jvm.exec) (hb : c.code = cc) {x y : Int64} (h : x = y) (hdg : decode cc pc = .ok (.lcmp, 1))
    (kk : W p l e R s m args below meth c H locs cells slots Q (F0 m (pc + 1) ls (.int 0 :: rest))) : W p l e R s m args below meth c H locs cells slots Q (F0 m pc ls (.long y :: .long x :: rest)) := by
  subst h
  intro T hT X
  obtain ⟨t, a, b⟩ := kk T hT X
  refine ⟨t, ?_, b⟩
  jvm_step X.here [X.here.top, hexec, hb, hdg]
  exact a
theorem preXV {wc : va_W} {tyc : List (ClassId × FieldType)} {sa b : Nat} {C : String} {As : List Value} (hrecv : ∃ cellB : Cell, H[b]? = some cellB ∧ cellB.vm.isStatics = false ∧ s.vm.findClass C = some cellB.cls) (hP : va_P D vwCl ws H) (hD : va_D A ws) (hS : va_S A s.heap H locs) (hA : ∀ q, s.heap.size ≤ q → A q) (hK : kK D tyc s) (hZ : xK sa A s s.heap) (isC : List Nat) (hC : isC.map (fun i => ws[i]?) = wc.map some) (hnC : va_nd isC = true) : PreV s H C b (xPc D wc tyc H.size sa (.ref b :: As)) As :=
  ⟨xPc_blind, hrecv, fun U hU hW => ⟨rfl, by rw [hU], by rw [hU]; exact sub_P hP isC hC, (hD.sub (ws' := wc) isC hnC hC).weaken (fun _ _ _ _ => trivial), hK.warm hW, by rw [hU]; exact ((hZ.kept hS.2.1).narrow (va_free (wc := wc) hD hS hA isC hC)).warm hW⟩⟩
theorem preX {wc : va_W} {tyc : List (ClassId × FieldType)} {sa : Nat} {av : List Value} (hP : va_P D vwCl ws H) (hD : va_D A ws) (hS : va_S A s.heap H locs) (hA : ∀ q, s.heap.size ≤ q → A q) (hK : kK D tyc s) (hZ : xK sa A s s.heap) (isC : List Nat) (hC : isC.map (fun i => ws[i]?) = wc.map some) (hnC : va_nd isC = true) : PreS s H (xPc D wc tyc H.size sa av) av :=
  ⟨xPc_blind, fun U hU hW => ⟨rfl, by rw [hU], by rw [hU]; exact sub_P hP isC hC, (hD.sub (ws' := wc) isC hnC hC).weaken (fun _ _ _ _ => trivial), hK.warm hW, by rw [hU]; exact ((hZ.kept hS.2.1).narrow (va_free (wc := wc) hD hS hA isC hC)).warm hW⟩⟩
end
def sPc (b L : Nat) (xs : Nat → Int32) (av : List Value) : Array Value → State → Prop := va_Pc av (fun U => va_X b L xs U U.heap ∧ b < U.heap.size)
theorem sPc_blind {b L : Nat} {xs : Nat → Int32} {av : List Value} : FrameBlind (sPc b L xs av) := by
  intro a U g mk q
  obtain ⟨q0, q1, q2⟩ := q
  exact ⟨q0, va_X.moved (u := U) (U := U.calling g mk a) (Vm.Alike.refl U.vm) q1, q2⟩
theorem g_head {l : Launch} {y : MethodName} {wsy ws' : List Cond} {rm : Room} {PP : State → Prop} {av : List Value} {Qc : Array Value → State → Outcome → State → Prop} {mc ms : Nat} {free : Addr → Prop} {cc : ByteArray} {maxL : Nat} {ret : Option FieldType} {C : String} (lv : List (Nat × Value))
    (hy : plainName y.cls = true) (hw : wsy = Cond.code y cc maxL ret :: ws') (hC : y.cls = C) (hlen : (lg_sl av).length ≤ maxL) (hlv : lv_args 0 av = lv)
    (body : ∀ (p : Program) (e : Env) (s : State) (m : MethodId) (below : List Frame) (meth : Method) (c : Code), p.tables.exec = Jvm.exec → c.code = cc → meth.sig.returnType = ret → meth.locks = false → c.maxLocals = maxL → s.vm.findClass C = some m.cls → (∀ w ∈ wsy, w.before av.toArray s = true) → PP s →
      ∀ ls : Array Slot, lv_has ls maxL lv → W p l e (headSpec wsy rm).room s m av.toArray below meth c s.heap [] 0 0 (MQ below Qc av.toArray s mc ms free) (F0 m 0 ls [])) : Met l y wsy rm (va_Pc av PP) Qc mc ms free := by
  refine Met.ofW (cc := cc) (maxL := maxL) (ret := ret) hy hw ?_
  intro p e s m args below meth c s₁ B hml hv
  obtain ⟨rfl, hP⟩ := hv
  have hts := atoms_spec (ws := wsy) B.pre
  have hown : s.vm.findClass C = some m.cls := hC ▸ findClass_of_methodNamed B.named
  rw [lg_entry_eq]
  exact body p e s m below meth c B.exec B.bytes B.returns B.notSynchronized hml hown hts hP _ (hlv ▸ lv_entry av hlen)
theorem kL_cell (l : Launch) (b L : Nat) (xs : Nat → Int32) (hL : L ≤ 4097) : Met l yL_cell wsL_cell ({ frames := 0, cells := 0, slots := 0, locals := 0 }) (sPc b L xs [.ref b, .int 0]) (vp_Si (fun r => r = if 0 < L then xs 0 else 0)) 0 0 (fun _ => False) := by
  refine g_head (C := RL) (cc := cL_cell) (maxL := 2) (ret := (some .int)) [(0, .ref b), (1, .int 0)] (by decide) rfl rfl (Nat.le_of_ble_eq_true rfl) rfl ?_
  intro p e s mi below meth cd hx hb hr hlk hml hown hts hX ls hl
  obtain ⟨hX, hbl⟩ := hX
  have hS : va_S (fun _ => False) s.heap s.heap [] := va_S.rf
  refine lv_iload_n hx hb dL_cell_0 rfl (lv_at hl 1 rfl) ?_
  refine lv_aload_n hx hb dL_cell_1 rfl (lv_at hl 0 rfl) ?_
  refine va_slen hx hb hX hbl (fun h => h) hS dL_cell_2 ?_
  refine lv_icmp_ge (tgt := 12) hx hb dL_cell_3 (by decide) (fun c_3 => ?_) (fun c_3 => ?_)
  · have h0 : ¬ 0 < L := fun q => by
      have := (nI_leI (a := L) (b := 0) (by omega) (by omega)).mp c_3
      omega
    refine lv_iconst (v := 0) hx hb dL_cell_12 (by decide) ?_
    exact r_iret hx hb hr hlk (by rw [if_neg h0]) dL_cell_13
  · have h0 : 0 < L := Nat.pos_of_ne_zero (fun q => c_3 (by rw [q]; exact (nI_leI (a := 0) (b := 0) (by omega) (by omega)).mpr (Nat.le_refl 0)))
    refine lv_aload_n hx hb dL_cell_6 rfl (lv_at hl 0 rfl) ?_
    refine lv_iload_n hx hb dL_cell_7 rfl (lv_at hl 1 rfl) ?_
    refine x_sld hx hb hX hbl (fun h => h) hS 0 rfl h0 hL dL_cell_8 ?_
    refine lv_goto (tgt := 13) hx hb dL_cell_9 (by decide) ?_
    exact r_iret hx hb hr hlk (by rw [if_pos h0]) dL_cell_13
theorem h_head {l : Launch} {y : MethodName} {wsy ws' : List Cond} {rm : Room} {D : va_G} {wd : va_W} {tys : List (ClassId × FieldType)} {sz sa : Nat} {av : List Value} {Qc : Array Value → State → Outcome → State → Prop} {mc ms : Nat} {cc : ByteArray} {maxL : Nat} {ret : Option FieldType} {hh : List (Nat × Nat × Nat × Nat)} {C : String} (lv : List (Nat × Value))
    (hy : plainName y.cls = true) (hw : wsy = Cond.codeWith y cc maxL ret hh :: ws') (hC : y.cls = C) (hlen : (lg_sl av).length ≤ maxL) (hlv : lv_args 0 av = lv)
    (body : ∀ (p : Program) (e : Env) (s : State) (m : MethodId) (below : List Frame) (meth : Method) (c : Code), p.tables.exec = Jvm.exec → c.code = cc → meth.sig.returnType = ret → meth.locks = false → c.maxLocals = maxL → s.vm.findClass C = some m.cls → (∀ w ∈ wsy, w.before av.toArray s = true) → va_P D vwCl wd s.heap → va_D (va_A wd sz) wd → va_S (va_A wd sz) s.heap s.heap [] → (∀ q : Nat, s.heap.size ≤ q → va_A wd sz q) → kK D tys s → xK sa (va_A wd sz) s s.heap → c.exceptionTable.toList = tableOf hh →
      ∀ ls : Array Slot, lv_has ls maxL lv → W p l e (headSpec wsy rm).room s m av.toArray below meth c s.heap [] 0 0 (MQ below Qc av.toArray s mc ms (va_A wd sz)) (F0 m 0 ls [])) : Met l y wsy rm (xPc D wd tys sz sa av) Qc mc ms (va_A wd sz) := by
  refine va_MetW (hh := hh) (cc := cc) (maxL := maxL) (ret := ret) hy hw ?_
  intro p e s m args below meth c s₁ B hml hv
  obtain ⟨rfl, hsz, hP, hD, hK, hZ⟩ := hv
  have hts := atoms_spec (ws := wsy) B.pre
  have hown : s.vm.findClass C = some m.cls := hC ▸ findClass_of_methodNamed B.named
  have htab : c.exceptionTable.toList = tableOf hh := vx_table (x := y) B (hts _ (by rw [hw]; exact List.mem_cons_self))
  rw [lg_entry_eq]
  exact body p e s m below meth c B.exec B.bytes B.returns B.notSynchronized hml hown hts hP hD.self va_S.rf (fun q h => Or.inr (by rw [← hsz]; exact h)) hK hZ htab _ (hlv ▸ lv_entry av hlen)
abbrev ty3 (cA cC cL : ClassId) : List (ClassId × FieldType) := [(cA, .int), (cC, .object "StaffHeads$Chord"), (cL, .long)]
/-- behind the law's question to crowded: k 1 where it threw; else the answer lies in the long -/
def crP (u : Nat → Int32) (n m : Nat) (lo : Nat → Int32) (a : Nat → Nat → Int32) (p1 r : Int32) (x : cS) (v : Int64) : Prop := cQ u n m lo a x ∧ ((r = 1 ∧ okI p1 0 3 ∧ crT x p1 = 0 ∧ LK a n m (xL x)) ∨ (r = 0 ∧ (okI p1 0 3 → LK a n m (xL x) ∧ ¬ crT x p1 = 0) ∧ v = (crA x p1).toInt64))
set_option maxHeartbeats 4000000 in
set_option maxRecDepth 100000 in
theorem kL_crowded (l0 : Launch) (D : va_G) (c : Nat → Nat) (cA cC cL : ClassId) (u : Nat → Int32) (n m : Nat) (lo : Nat → Int32) (a : Nat → Nat → Int32) (sl : Prop) (X : lS) (qo sz sa : Nat) (f : Nat → Int64) (p1 : Int32) (hfl : l0.stackTraces = false) (hW : WF n m a) (hLo : LoOK lo a) (hJ : JK X) (hLK : ¬ sl → LK a n m X) : Met l0 yL_crowded wsL_crowded ({ frames := 7, cells := 1, slots := 6, locals := 169 }) (xPc D (cX c cA cC (u, n, m, lo, a, sl, X) ++ oW qo cL f) (ty3 cA cC cL) sz sa [.ref (c 0), .int p1, .ref qo]) (va_Qi (fun (r : Int32) (x : cS × (Nat → Int64)) => crP u n m lo a p1 r x.1 (x.2 0)) (wB D (cX c cA cC (u, n, m, lo, a, sl, X) ++ oW qo cL f) sz (fun x => cX c cA cC x.1 ++ oW qo cL x.2)) (va_A (cX c cA cC (u, n, m, lo, a, sl, X) ++ oW qo cL f) sz)) 1 6 (va_A (cX c cA cC (u, n, m, lo, a, sl, X) ++ oW qo cL f) sz) := by
  refine h_head (C := RL) (cc := cL_crowded) (maxL := 4) (ret := (some .int)) (hh := [(0, 9, 12, 13)]) [(0, .ref (c 0)), (1, .int p1), (2, .ref qo)] (by decide) rfl rfl (Nat.le_of_ble_eq_true rfl) rfl ?_
  intro p e s mi below meth cd hx hb hr hlk hml hown hts hP hD hS hA hK hZ htab ls hl
  have hKl : kK D [(cA, .int), (cC, .object "StaffHeads$Chord")] s := ⟨hK.1.sub [0, 1] rfl, hK.2⟩
  have hFc := va_free (wc := shW c u ++ svW c cA m lo a ++ noW c cA n a ++ lyX c cA cC sl X) hD hS hA (List.range 37) rfl
  have fcl := hts (.classLink RL 13 "java/lang/ArithmeticException") (List.mem_of_getElem? (i := 1) rfl)
  refine lv_aload_n hx hb dL_crowded_0 rfl (lv_at hl 2 rfl) ?_
  refine lv_iconst (v := 0) hx hb dL_crowded_1 (by decide) ?_
  refine lv_aload_n hx hb dL_crowded_2 rfl (lv_at hl 0 rfl) ?_
  refine lv_iload_n hx hb dL_crowded_3 rfl (lv_at hl 1 rfl) ?_
  refine vx_calli (S := cS) (SX := cS) (vx_runV (As := [.int p1]) (rest := [.int 0, .ref qo]) ⟨hx, hb, hml, hown, hts⟩ (k5_crowded l0 D c cA cC u n m lo a sl X _ sa p1 hfl hW hLo hJ hLK) (cwV 1 hts gL_crowded_X5_crowded rfl rfl rfl (by decide +kernel) ⟨Nat.le_of_ble_eq_true rfl, Nat.le_of_ble_eq_true rfl⟩) (preXV (va_recv hK.1 hP (ci := 5) (q0 := 0) rfl rfl) hP hD hS hA hKl hZ (List.range 37) rfl (by decide)) rfl rfl hl.1 rfl (lv_room (Nat.le_of_ble_eq_true rfl)) dL_crowded_4 ⟨Nat.le_of_ble_eq_true rfl, Nat.le_of_ble_eq_true rfl⟩) hS (fun q _ h => hFc q h) hFc (fun q _ h => hFc q h) (fun E ce q9 x t H1 locs1 ht hvm hp hB hz1 hk1 hS1 hce hcv hcl => ?_) (fun r x t H1 locs1 ht hvm hp hB hz1 hk1 hS1 => ?_)
  · obtain ⟨rfl, hP1, hD1⟩ := hB
    rw [ht] at hP1
    obtain ⟨hP2, hD2⟩ := va_join (wr := oW qo cL f) (w1 := cX c cA cC x) hP hD (List.range 37) [37] rfl rfl (by decide) (by decide) hk1 hFc hP1 hD1
    refine vx_catch (own := RL) (name := nAE) hown [] ⟨0, 9, 12, 13⟩ [] htab (fun z h => nomatch h) (by decide) (by decide) fcl (hZ.2.2.1.use rfl) hce hcv hcl ?_
    have hP3 : va_P D vwCl (cX c cA cC x ++ oW qo cL f) H1 := hP2.sub (List.range' 1 37 ++ [0]) rfl
    have hD3 : va_D (va_A (cX c cA cC (u, n, m, lo, a, sl, X) ++ oW qo cL f) sz) (cX c cA cC x ++ oW qo cL f) := hD2.sub (List.range' 1 37 ++ [0]) (by decide) rfl
    refine lv_astore_n (lv' := [(3, .ref q9), (0, .ref (c 0)), (1, .int p1), (2, .ref qo)]) hx hb dL_crowded_12 rfl hl (by decide) rfl (fun ls hl => ?_)
    refine lv_iconst (v := 1) hx hb dL_crowded_13 (by decide) ?_
    exact w_iret (S0 := cS × (Nat → Int64)) (w1 := fun x => cX c cA cC x.1 ++ oW qo cL x.2) (x, f) hx hb hr hlk hP3 hD3 hS1 ⟨hp.2.2.2, Or.inl ⟨rfl, hp.1, hp.2.1, hp.2.2.1⟩⟩ dL_crowded_14
  · obtain ⟨hP1, hD1⟩ := hB
    rw [ht] at hP1
    obtain ⟨hP2, hD2⟩ := va_join (wr := oW qo cL f) (w1 := cX c cA cC x) hP hD (List.range 37) [37] rfl rfl (by decide) (by decide) hk1 hFc hP1 hD1
    have hP3 : va_P D vwCl (cX c cA cC x ++ oW qo cL f) H1 := hP2.sub (List.range' 1 37 ++ [0]) rfl
    have hD3 : va_D (va_A (cX c cA cC (u, n, m, lo, a, sl, X) ++ oW qo cL f) sz) (cX c cA cC x ++ oW qo cL f) := hD2.sub (List.range' 1 37 ++ [0]) (by decide) rfl
    refine lv_i2l (v := r.toInt64) hx hb dL_crowded_7 rfl ?_
    refine va_last hx hb hK.1 hP3 hD3 hS1 37 2 rfl rfl (by unfold vp_in; decide) dL_crowded_8 (fun H2 locs2 hP4 hD4 hS4 => ?_)
    refine lv_goto (tgt := 15) hx hb dL_crowded_9 (by decide) ?_
    refine lv_iconst (v := 0) hx hb dL_crowded_15 (by decide) ?_
    exact w_iret (S0 := cS × (Nat → Int64)) (w1 := fun x => cX c cA cC x.1 ++ oW qo cL x.2) (x, vp_updL f (Int32.toNatClampNeg 0) r.toInt64) hx hb hr hlk hP4 hD4 hS4 ⟨hp.2.2, Or.inr ⟨rfl, hp.2.1, by rw [← hp.1]; rfl⟩⟩ dL_crowded_16
