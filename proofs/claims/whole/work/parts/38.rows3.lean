/-! ROWS 3: what a throw needs; the law's own methods -/
abbrev nAE : String := "java/lang/ArithmeticException"
def xK (sa : Nat) (A : Nat → Prop) (U : State) (H : Heap) : Prop := vk_R RX5 165 "the staff has no notes" sa U ∧ (vx_Zq Bundle.tN "UNASSIGNED_STACK" Bundle.steD A U H ∧ vx_Zq Bundle.tN "SUPPRESSED_SENTINEL" Bundle.listD A U H) ∧ va_Nw (.castable nAE nAE) U ∧ va_Nw (.declares (Bundle.initS "java/lang/RuntimeException")) U ∧ va_Nw (.declares (Bundle.initS "java/lang/Exception")) U ∧ va_Nw (.declares (Bundle.initS Bundle.tN)) U
theorem xK.warm {sa : Nat} {A : Nat → Prop} {s U : State} {H : Heap} (hW : s.WarmedH U.vm) (h : xK sa A s H) : xK sa A U H := by
  obtain ⟨h1, ⟨h2, h3⟩, h4, h5, h6, h7⟩ := h
  exact ⟨vk_R.warm hW h1, ⟨h2.moved hW.alike, h3.moved hW.alike⟩, h4.warmC hW, h5.warmD hW, h6.warmD hW, h7.warmD hW⟩
theorem xK.same {sa : Nat} {A : Nat → Prop} {s U : State} {H : Heap} (hv : s.vm = U.vm) (h : xK sa A s H) : xK sa A U H := by
  obtain ⟨h1, ⟨h2, h3⟩, h4, h5, h6, h7⟩ := h
  have ha : s.vm.Alike U.vm := hv ▸ Vm.Alike.refl s.vm
  exact ⟨vk_R.same hv.symm h1, ⟨h2.moved ha, h3.moved ha⟩, h4.same rfl hv, h5.same rfl hv, h6.same rfl hv, h7.same rfl hv⟩
theorem xK.kept {sa : Nat} {A : Nat → Prop} {U : State} {H H1 : Heap} (h : xK sa A U H) (hq : ∀ a : Nat, a < H.size → ¬ A a → H1[a]? = H[a]?) : xK sa A U H1 := ⟨h.1, ⟨h.2.1.1.kept hq, h.2.1.2.kept hq⟩, h.2.2⟩
theorem xK.narrow {sa : Nat} {A B : Nat → Prop} {U : State} {H : Heap} (h : xK sa A U H) (hAB : ∀ q, B q → A q) : xK sa B U H := ⟨h.1, ⟨h.2.1.1.narrow hAB, h.2.1.2.narrow hAB⟩, h.2.2⟩
def xPc (D : va_G) (wd : va_W) (tys : List (ClassId × FieldType)) (sz sa : Nat) (av : List Value) : Array Value → State → Prop := va_Pc av (fun U => U.heap.size = sz ∧ va_P D vwCl wd U.heap ∧ va_D (fun _ => True) wd ∧ kK D tys U ∧ xK sa (va_A wd sz) U U.heap)
theorem xPc_blind {D : va_G} {wd : va_W} {tys : List (ClassId × FieldType)} {sz sa : Nat} {av : List Value} : FrameBlind (xPc D wd tys sz sa av) := by
  intro a U g mk q
  obtain ⟨q0, q1, qP, qD, ⟨qK, qN⟩, qZ⟩ := q
  exact ⟨q0, q1, qP, qD, ⟨va_K.moved (u := U) (U := U.calling g mk a) (Vm.Alike.refl U.vm) qK, nW.same (s := U) (U := U.calling g mk a) rfl qN⟩, xK.same (s := U) (U := U.calling g mk a) rfl qZ⟩
theorem x_head {l : Launch} {y : MethodName} {wsy ws' : List Cond} {rm : Room} {D : va_G} {wd : va_W} {tys : List (ClassId × FieldType)} {sz sa : Nat} {av : List Value} {Qc : Array Value → State → Outcome → State → Prop} {XC : String → State → State → Prop} {mc ms : Nat} {cc : ByteArray} {maxL : Nat} {ret : Option FieldType} {C : String} (lv : List (Nat × Value))
    (hy : plainName y.cls = true) (hw : wsy = Cond.code y cc maxL ret :: ws') (hC : y.cls = C) (hlen : (lg_sl av).length ≤ maxL) (hlv : lv_args 0 av = lv)
    (body : ∀ (p : Program) (e : Env) (s : State) (m : MethodId) (below : List Frame) (meth : Method) (c : Code), p.tables.exec = Jvm.exec → c.code = cc → meth.sig.returnType = ret → meth.locks = false → c.maxLocals = maxL → s.vm.findClass C = some m.cls → meth.name = y.name → (∀ w ∈ wsy, w.before av.toArray s = true) → va_P D vwCl wd s.heap → va_D (va_A wd sz) wd → va_S (va_A wd sz) s.heap s.heap [] → (∀ q : Nat, s.heap.size ≤ q → va_A wd sz q) → kK D tys s → xK sa (va_A wd sz) s s.heap → (∀ x ∈ c.exceptionTable.toList, False) →
      ∀ ls : Array Slot, lv_has ls maxL lv → W p l e (headSpec wsy rm).room s m av.toArray below meth c s.heap [] 0 0 (vx_MQ below Qc XC av.toArray s mc ms (va_A wd sz)) (F0 m 0 ls [])) : vx_Met l y wsy rm (xPc D wd tys sz sa av) Qc XC mc ms (va_A wd sz) := by
  refine vx_ofW (cc := cc) (maxL := maxL) (ret := ret) hy hw ?_
  intro p e s m args below meth c s₁ B hml hno hv
  obtain ⟨rfl, hsz, hP, hD, hK, hZ⟩ := hv
  have hts := atoms_spec (ws := wsy) B.pre
  have hown : s.vm.findClass C = some m.cls := hC ▸ findClass_of_methodNamed B.named
  rw [lg_entry_eq]
  exact body p e s m below meth c B.exec B.bytes B.returns B.notSynchronized hml hown (name_of_methodNamed B.named B.method).1 hts hP hD.self va_S.rf (fun q h => Or.inr (by rw [← hsz]; exact h)) hK hZ hno _ (hlv ▸ lv_entry av hlen)
theorem cTks_le (l9 : Nat → Int32) (j t : Nat) : cTks l9 j t ≤ t := by
  induction t with
  | zero => exact Nat.le_refl 0
  | succ t ih => unfold cTks; split <;> omega
/-- what crowded answers, and when it throws -/
abbrev crT (x : cS) (p1 : Int32) : Nat := cTks ((xL x).1 9) p1.toNatClampNeg 100
abbrev crA (x : cS) (p1 : Int32) : Int32 := if okI p1 0 3 then 1000 * nI (cCrd ((xL x).1 12) p1.toNatClampNeg 100) / nI (crT x p1) else -1001
theorem crBad : ∀ w ∈ (vx_atS RX5 167 nAE ["java/lang/RuntimeException", "java/lang/Exception"]).filter (fun w => !goodWord w), w ∈ ([.castable nAE nAE, .declares (Bundle.initS "java/lang/RuntimeException"), .declares (Bundle.initS "java/lang/Exception"), .declares (Bundle.initS Bundle.tN)] : List Cond) := by decide +kernel
theorem crGood : ∀ w ∈ Cond.classLink RX5 163 nAE :: Cond.initialized nAE :: vx_atS RX5 167 nAE ["java/lang/RuntimeException", "java/lang/Exception"], vx_ot w = true := by decide +kernel
