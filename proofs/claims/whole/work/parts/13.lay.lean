/-! rows for the layout's methods -/
section
variable {p : Program} {l : Launch} {e : Env} {R : Room} {s : State} {m : MethodId} {args : Array Value} {below : List Frame} {meth : Method} {c : Code} {H : Heap} {locs : List Loc} {cells slots : Nat} {Q : State → Prop} {cc : ByteArray} {pc : Nat} {ls : Array Slot} {rest st0 : List Value} {D : va_G} {A : Nat → Prop} {ws : va_W} {y : MethodName} {bytes : ByteArray} {maxL nL mc ms n index : Nat} {ret : Option FieldType} {wsy : List Cond} {rm : Room} {Ts : List Cond} {own C : String} {b : Addr} {As : List Value} {tys : List (ClassId × FieldType)}
theorem x_tpr {x y : Nat} (h : x = y) (k : W p l e R s m args below meth c H locs cells slots Q (F0 m pc ls (.ref y :: rest))) : W p l e R s m args below meth c H locs cells slots Q (F0 m pc ls (.ref x :: rest)) := by rw [h]; exact k
theorem x_aald (hexec : p.tables.exec = Jvm.exec) (hb : c.code = cc) (hK : kK D tys s) (hP : va_P D vwCl ws H) (q0 t0 : Nat) {a : Nat} {cC : ClassId} {C : String} {N : Nat} {g : Nat → Nat} (ha : ws[q0]? = some (a, .inl (cC, N, .inr (.inr (.inr (.inr (fun i => some (g i)))))))) (ht : tys[t0]? = some (cC, .object C)) {k : Nat} (hk : k < N) (hN : N < 2 ^ 31) (hdg : decode cc pc = .ok (.aaload, 1))
    (kk : W p l e R s m args below meth c H locs cells slots Q (F0 m (pc + 1) ls (.ref (g k) :: rest))) : W p l e R s m args below meth c H locs cells slots Q (F0 m pc ls (.int (nI k) :: .ref a :: rest)) := by
  refine va_aldq hexec hb hK.1 hP q0 t0 ha ht (vp_in_nI hk hN) hdg ?_
  rw [nI_clamp (Nat.lt_trans hk hN)]
  exact kk
theorem filt_map {ws : va_W} {is : List Nat} (h : ∀ i ∈ is, i < ws.length) : is.map (fun i => ws[i]?) = (is.filterMap (fun i => ws[i]?)).map some := by
  induction is with
  | nil => rfl
  | cons a is ih =>
    have ha := h a List.mem_cons_self
    have h1 : ws[a]? = some ws[a] := List.getElem?_eq_getElem ha
    rw [List.map_cons, List.filterMap_cons, h1]
    simp only [List.map_cons]
    rw [ih (fun i hi => h i (List.mem_cons_of_mem _ hi))]
theorem wxVv {S0 : Type} {wc : va_W} {w1 : S0 → va_W} {tyc : List (ClassId × FieldType)} {post : S0 → Prop} {H0 : Heap} (S : CallFix p m c cc nL s args Ts own) (hM : Met l y wsy rm (wPc D wc tyc H.size (.ref b :: As)) (va_Qv post (wB D wc H.size w1) (va_A wc H.size)) mc ms (va_A wc H.size)) (cw : CallW R s args own C index y bytes maxL ret wsy rm mc ms n) (hrecv : ∃ cellB : Cell, H[b]? = some cellB ∧ cellB.vm.isStatics = false ∧ s.vm.findClass C = some cellB.cls)
    (hP : va_P D vwCl ws H) (hD : va_D A ws) (hS : va_S A H0 H locs) (hA : ∀ q, H0.size ≤ q → A q) (hK : kK D tyc s) (isC isR : List Nat) (hC : isC.map (fun i => ws[i]?) = wc.map some) (N : Nat) (hN : ws.length = N) (hR : ∀ i ∈ isR, i < N) (hnC : va_nd isC = true) (hnR : va_nd isR = true) (hdis : ∀ i ∈ isR, i ∉ isC)
    (hn : As.length = n) (hsize : ls.size = nL) (hstack : st0 = As.reverse ++ .ref b :: rest) (hW : (rest.map fun v => v.category).sum ≤ 8) (hdg : decode cc pc = .ok (.invokevirtual index, 3)) (hf : cells + mc ≤ R.cells ∧ slots + ms ≤ R.slots)
    (kk : ∀ (u : S0) (H1 : Heap) (locs1 : List Loc), post u → va_P D vwCl (isR.filterMap (fun i => ws[i]?) ++ w1 u) H1 → va_D A (isR.filterMap (fun i => ws[i]?) ++ w1 u) → va_S A H0 H1 locs1 → W p l e R s m args below meth c H1 locs1 (cells + mc) (slots + ms) Q (F0 m (pc + 3) ls rest)) : W p l e R s m args below meth c H locs cells slots Q (F0 m pc ls st0) :=
  wcVv S hM cw hrecv hP hD hS hA hK isC isR hC (filt_map (fun i hi => by rw [hN]; exact hR i hi)) hnC hnR hdis hn hsize hstack hW hdg hf kk
theorem wxVi {S0 : Type} {wc : va_W} {w1 : S0 → va_W} {tyc : List (ClassId × FieldType)} {post : Int32 → S0 → Prop} {H0 : Heap} (S : CallFix p m c cc nL s args Ts own) (hM : Met l y wsy rm (wPc D wc tyc H.size (.ref b :: As)) (va_Qi post (wB D wc H.size w1) (va_A wc H.size)) mc ms (va_A wc H.size)) (cw : CallW R s args own C index y bytes maxL ret wsy rm mc ms n) (hrecv : ∃ cellB : Cell, H[b]? = some cellB ∧ cellB.vm.isStatics = false ∧ s.vm.findClass C = some cellB.cls)
    (hP : va_P D vwCl ws H) (hD : va_D A ws) (hS : va_S A H0 H locs) (hA : ∀ q, H0.size ≤ q → A q) (hK : kK D tyc s) (isC isR : List Nat) (hC : isC.map (fun i => ws[i]?) = wc.map some) (N : Nat) (hN : ws.length = N) (hR : ∀ i ∈ isR, i < N) (hnC : va_nd isC = true) (hnR : va_nd isR = true) (hdis : ∀ i ∈ isR, i ∉ isC)
    (hn : As.length = n) (hsize : ls.size = nL) (hstack : st0 = As.reverse ++ .ref b :: rest) (hW : (rest.map fun v => v.category).sum ≤ 8) (hdg : decode cc pc = .ok (.invokevirtual index, 3)) (hf : cells + mc ≤ R.cells ∧ slots + ms ≤ R.slots)
    (kk : ∀ (r : Int32) (u : S0) (H1 : Heap) (locs1 : List Loc), post r u → va_P D vwCl (isR.filterMap (fun i => ws[i]?) ++ w1 u) H1 → va_D A (isR.filterMap (fun i => ws[i]?) ++ w1 u) → va_S A H0 H1 locs1 → W p l e R s m args below meth c H1 locs1 (cells + mc) (slots + ms) Q (F0 m (pc + 3) ls (.int r :: rest))) : W p l e R s m args below meth c H locs cells slots Q (F0 m pc ls st0) :=
  wcVi S hM cw hrecv hP hD hS hA hK isC isR hC (filt_map (fun i hi => by rw [hN]; exact hR i hi)) hnC hnR hdis hn hsize hstack hW hdg hf kk
theorem wxSv {S0 : Type} {wc : va_W} {w1 : S0 → va_W} {tyc : List (ClassId × FieldType)} {post : S0 → Prop} {H0 : Heap} (S : CallFix p m c cc nL s args Ts own) (hM : Met l y wsy rm (wPc D wc tyc H.size As) (va_Qv post (wB D wc H.size w1) (va_A wc H.size)) mc ms (va_A wc H.size)) (cw : CallB R s args own index y bytes maxL ret wsy rm mc ms n ∧ (Cond.static y).before args s = true)
    (hP : va_P D vwCl ws H) (hD : va_D A ws) (hS : va_S A H0 H locs) (hA : ∀ q, H0.size ≤ q → A q) (hK : kK D tyc s) (isC isR : List Nat) (hC : isC.map (fun i => ws[i]?) = wc.map some) (N : Nat) (hN : ws.length = N) (hR : ∀ i ∈ isR, i < N) (hnC : va_nd isC = true) (hnR : va_nd isR = true) (hdis : ∀ i ∈ isR, i ∉ isC)
    (hn : As.length = n) (hsize : ls.size = nL) (hstack : st0 = As.reverse ++ rest) (hW : (rest.map fun v => v.category).sum ≤ 8) (hdg : decode cc pc = .ok (.invokestatic index, 3)) (hf : cells + mc ≤ R.cells ∧ slots + ms ≤ R.slots)
    (kk : ∀ (u : S0) (H1 : Heap) (locs1 : List Loc), post u → va_P D vwCl (isR.filterMap (fun i => ws[i]?) ++ w1 u) H1 → va_D A (isR.filterMap (fun i => ws[i]?) ++ w1 u) → va_S A H0 H1 locs1 → W p l e R s m args below meth c H1 locs1 (cells + mc) (slots + ms) Q (F0 m (pc + 3) ls rest)) : W p l e R s m args below meth c H locs cells slots Q (F0 m pc ls st0) :=
  wcSv S hM cw hP hD hS hA hK isC isR hC (filt_map (fun i hi => by rw [hN]; exact hR i hi)) hnC hnR hdis hn hsize hstack hW hdg hf kk
end
/-! what the layout's methods reckon -/
abbrev cSh (l1 l2 he si : Nat → Int32) (x y : Nat) : Prop := l1 x = l1 y ∧ he x = he y ∧ si x = si y ∧ ¬ l2 x = l2 y
abbrev cPair (l1 l2 l3 he si : Nat → Int32) (d1 d2 : Nat) (x y : Nat) : Prop := nI d1 + l3 x = nI d2 + l3 y ∧ ¬ 1 < absI (l1 x - l1 y) ∧ ¬ cSh l1 l2 he si x y
/-- the chord M1, moved by d1, lies over M2, moved by d2 -/
abbrev cOver (l1 l2 l3 he si : Nat → Int32) (z1 d1 : Nat) (M1 : Nat → Nat) (z2 d2 : Nat) (M2 : Nat → Nat) : Prop := ¬ ∀ i, i < z1 → ∀ k, k < z2 → ¬ cPair l1 l2 l3 he si d1 d2 (M1 i) (M2 k)
def gLw (st vo ti sp : Nat → Int32) (s t v : Int32) (lw0 : Int32) : Nat → Int32
  | 0 => lw0
  | i + 1 => if rIn st vo ti i s t v then (if rMany st vo ti s t v i = 0 then sp i else mnI (gLw st vo ti sp s t v lw0 i) (sp i)) else gLw st vo ti sp s t v lw0 i
def gHg (st vo ti sp : Nat → Int32) (s t v : Int32) (hg0 : Int32) : Nat → Int32
  | 0 => hg0
  | i + 1 => if rIn st vo ti i s t v then (if rMany st vo ti s t v i = 0 then sp i else mxI (gHg st vo ti sp s t v hg0 i) (sp i)) else gHg st vo ti sp s t v hg0 i
def gO (st vo ti he : Nat → Int32) (s t v : Int32) : Nat → Prop
  | 0 => True
  | i + 1 => if rIn st vo ti i s t v then (gO st vo ti he s t v i ∧ he i = 0) else gO st vo ti he s t v i
def gM (st vo ti : Nat → Int32) (s t v : Int32) (M0 : Nat → Nat) : Nat → (Nat → Nat)
  | 0 => M0
  | i + 1 => if rIn st vo ti i s t v then va_up (gM st vo ti s t v M0 i) (rMany st vo ti s t v i) i else gM st vo ti s t v M0 i
def gB (st ti si : Nat → Int32) (s t : Int32) (M0 : Nat → Nat) : Nat → (Nat → Nat)
  | 0 => M0
  | i + 1 => if rAt st ti i s t ∧ ¬ si i = 3 then va_up (gB st ti si s t M0 i) (rLeft st ti si s t i) i else gB st ti si s t M0 i
def rTot (st ti : Nat → Int32) (s t : Int32) : Nat → Nat
  | 0 => 0
  | i + 1 => rTot st ti s t i + (if rAt st ti i s t then 1 else 0)
theorem rTot_le (st ti : Nat → Int32) (s t : Int32) (i : Nat) : rTot st ti s t i ≤ i := by
  induction i with
  | zero => exact Nat.le_refl 0
  | succ i ih => unfold rTot; split <;> omega
/-- nothing of the place comes ahead of f: all is as at first -/
theorem g_first {st vo ti sp he si : Nat → Int32} {s t : Int32} {f : Nat} (h : ∀ k, k < f → ¬ rAt st ti k s t) (v : Int32) (lw0 hg0 : Int32) (M0 : Nat → Nat) : rMany st vo ti s t v f = 0 ∧ gLw st vo ti sp s t v lw0 f = lw0 ∧ gHg st vo ti sp s t v hg0 f = hg0 ∧ gO st vo ti he s t v f = True ∧ gM st vo ti s t v M0 f = M0 ∧ rLeft st ti si s t f = 0 ∧ gB st ti si s t M0 f = M0 ∧ rTot st ti s t f = 0 := by
  induction f with
  | zero => exact ⟨rfl, rfl, rfl, rfl, rfl, rfl, rfl, rfl⟩
  | succ f ih =>
    obtain ⟨h1, h2, h3, h4, h5, h6, h7, h8⟩ := ih (fun k hk => h k (by omega))
    have hn : ¬ rAt st ti f s t := h f (by omega)
    have hi : ¬ rIn st vo ti f s t v := fun q => hn q.1
    refine ⟨by rw [rMany_f hi, h1], by rw [gLw, if_neg hi, h2], by rw [gHg, if_neg hi, h3], by rw [gO, if_neg hi, h4], by rw [gM, if_neg hi, h5], by rw [rLeft, if_neg (fun q => hn q.1), h6], by rw [gB, if_neg (fun q => hn q.1), h7], by rw [rTot, if_neg hn, h8]⟩
theorem upd_id (f : Nat → Int32) (k : Nat) (x : Int32) (h : f k = x) : upd f k x = f := by
  funext j
  unfold upd
  split
  · rename_i e; rw [e, h]
  · rfl
/-- how many of the three chords have heads -/
def cCnt (z : Nat → Nat) : Nat → Nat
  | 0 => 0
  | v + 1 => cCnt z v + (if 0 < z v then 1 else 0)
theorem cCnt_le (z : Nat → Nat) (v : Nat) : cCnt z v ≤ v := by
  induction v with
  | zero => exact Nat.le_refl 0
  | succ v ih => unfold cCnt; split <;> omega
abbrev cLes (z : Nat → Nat) (v : Nat) : Prop := ∀ w, w < v → z w = 0
/-- which way the stem of the voice v goes -/
def cUp (z : Nat → Nat) (lw hg : Nat → Int32) (U : Nat → Prop) (v : Nat) : Prop := if 0 < z v then (if 1 < cCnt z 3 then cLes z v else hg v - 4 < 4 - lw v) else U v
noncomputable def cStm (row : Nat → Int32) (M : Nat → Nat) (U : Prop) : Nat → (Nat → Int32)
  | 0 => row
  | i + 1 => upd (cStm row M U i) (M i) (bv U)
def cRow (row : Nat → Int32) (M : Nat → Nat) (x : Int32) : Nat → (Nat → Int32)
  | 0 => row
  | i + 1 => upd (cRow row M x i) (M i) x
theorem gLw_t {st vo ti sp : Nat → Int32} {s t v lw0 : Int32} {i : Nat} (h : rIn st vo ti i s t v) : gLw st vo ti sp s t v lw0 (i + 1) = if rMany st vo ti s t v i = 0 then sp i else mnI (gLw st vo ti sp s t v lw0 i) (sp i) := by rw [gLw, if_pos h]
theorem gLw_f {st vo ti sp : Nat → Int32} {s t v lw0 : Int32} {i : Nat} (h : ¬ rIn st vo ti i s t v) : gLw st vo ti sp s t v lw0 (i + 1) = gLw st vo ti sp s t v lw0 i := by rw [gLw, if_neg h]
theorem gHg_t {st vo ti sp : Nat → Int32} {s t v lw0 : Int32} {i : Nat} (h : rIn st vo ti i s t v) : gHg st vo ti sp s t v lw0 (i + 1) = if rMany st vo ti s t v i = 0 then sp i else mxI (gHg st vo ti sp s t v lw0 i) (sp i) := by rw [gHg, if_pos h]
theorem gHg_f {st vo ti sp : Nat → Int32} {s t v lw0 : Int32} {i : Nat} (h : ¬ rIn st vo ti i s t v) : gHg st vo ti sp s t v lw0 (i + 1) = gHg st vo ti sp s t v lw0 i := by rw [gHg, if_neg h]
theorem gO_t {st vo ti he : Nat → Int32} {s t v : Int32} {i : Nat} (h : rIn st vo ti i s t v) : gO st vo ti he s t v (i + 1) = (gO st vo ti he s t v i ∧ he i = 0) := by rw [gO, if_pos h]
theorem gO_f {st vo ti he : Nat → Int32} {s t v : Int32} {i : Nat} (h : ¬ rIn st vo ti i s t v) : gO st vo ti he s t v (i + 1) = gO st vo ti he s t v i := by rw [gO, if_neg h]
theorem gM_t {st vo ti : Nat → Int32} {s t v : Int32} {M0 : Nat → Nat} {i : Nat} (h : rIn st vo ti i s t v) : gM st vo ti s t v M0 (i + 1) = va_up (gM st vo ti s t v M0 i) (rMany st vo ti s t v i) i := by rw [gM, if_pos h]
theorem gM_f {st vo ti : Nat → Int32} {s t v : Int32} {M0 : Nat → Nat} {i : Nat} (h : ¬ rIn st vo ti i s t v) : gM st vo ti s t v M0 (i + 1) = gM st vo ti s t v M0 i := by rw [gM, if_neg h]
theorem gB_t {st ti si : Nat → Int32} {s t : Int32} {M0 : Nat → Nat} {i : Nat} (h : rAt st ti i s t ∧ ¬ si i = 3) : gB st ti si s t M0 (i + 1) = va_up (gB st ti si s t M0 i) (rLeft st ti si s t i) i := by rw [gB, if_pos h]
theorem gB_f {st ti si : Nat → Int32} {s t : Int32} {M0 : Nat → Nat} {i : Nat} (h : ¬ (rAt st ti i s t ∧ ¬ si i = 3)) : gB st ti si s t M0 (i + 1) = gB st ti si s t M0 i := by rw [gB, if_neg h]
theorem rLeft_t2 {st ti si : Nat → Int32} {s t : Int32} {k : Nat} (h : rAt st ti k s t ∧ ¬ si k = 3) : rLeft st ti si s t (k + 1) = rLeft st ti si s t k + 1 := by rw [rLeft, if_pos h]
theorem rLeft_f2 {st ti si : Nat → Int32} {s t : Int32} {k : Nat} (h : ¬ (rAt st ti k s t ∧ ¬ si k = 3)) : rLeft st ti si s t (k + 1) = rLeft st ti si s t k := by rw [rLeft, if_neg h, Nat.add_zero]
theorem rTot_t {st ti : Nat → Int32} {s t : Int32} {k : Nat} (h : rAt st ti k s t) : rTot st ti s t (k + 1) = rTot st ti s t k + 1 := by rw [rTot, if_pos h]
theorem rTot_f {st ti : Nat → Int32} {s t : Int32} {k : Nat} (h : ¬ rAt st ti k s t) : rTot st ti s t (k + 1) = rTot st ti s t k := by rw [rTot, if_neg h, Nat.add_zero]
theorem cLes_s {z : Nat → Nat} {v : Nat} (h : ¬ 0 < z v) : cLes z v ↔ cLes z (v + 1) := by
  constructor
  · intro q w hw
    rcases Nat.lt_succ_iff_lt_or_eq.mp hw with e | e
    · exact q w e
    · rw [e]; omega
  · intro q w hw; exact q w (by omega)
theorem cCnt_t {z : Nat → Nat} {v : Nat} (h : 0 < z v) : cCnt z (v + 1) = cCnt z v + 1 := by rw [cCnt, if_pos h]
theorem cCnt_f {z : Nat → Nat} {v : Nat} (h : ¬ 0 < z v) : cCnt z (v + 1) = cCnt z v := by rw [cCnt, if_neg h, Nat.add_zero]
noncomputable def cTurn (sp : Nat → Int32) (M : Nat → Nat) (U : Prop) (as : Nat → Int32) (z : Nat) : Nat → Int32 := @rTurn sp M U (Classical.propDecidable U) as z
