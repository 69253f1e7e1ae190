/-! THE CLASS'S WORLDS: c gives all addresses: 0 StaffHeads, 1 Staves, 2 .. 6 its rows, 7 Notes, 8 .. 13 its rows, 14 Layout, 15 .. 26 its rows, 27 the chords' row, 28 .. 30 Chords, 31 .. 33 their heads, 34 Signs, 35, 36 its rows -/
def svW (c : Nat → Nat) (cA : ClassId) (m : Nat) (lo : Nat → Int32) (a : Nat → Nat → Int32) : va_W :=
  [(c 1, .inr (4, [.ref (c 2), .ref (c 3), .ref (c 4), .ref (c 5), .ref (c 6), .int (nI m)])), (c 2, .inl (cA, 4, .inl lo)), (c 3, .inl (cA, 12, .inl (a 3))), (c 4, .inl (cA, 12, .inl (a 4))), (c 5, .inl (cA, 12, .inl (a 5))), (c 6, .inl (cA, 12, .inl (a 6)))]
def noW (c : Nat → Nat) (cA : ClassId) (n : Nat) (a : Nat → Nat → Int32) : va_W :=
  [(c 7, .inr (2, [.ref (c 8), .ref (c 9), .ref (c 10), .ref (c 11), .ref (c 12), .ref (c 13), .int (nI n)])), (c 8, .inl (cA, 60, .inl (a 7))), (c 9, .inl (cA, 60, .inl (a 8))), (c 10, .inl (cA, 60, .inl (a 9))), (c 11, .inl (cA, 60, .inl (a 10))), (c 12, .inl (cA, 60, .inl (a 11))), (c 13, .inl (cA, 60, .inl (a 12)))]
/-- a chord alone: its object at q0, its heads at q1; z heads M, lw lowest, hg highest, O only whole ones, U up, mv moved -/
noncomputable def kW (q0 q1 : Nat) (cA : ClassId) (z : Nat) (lw hg : Int32) (O U : Prop) (mv : Nat) (M : Nat → Nat) : va_W := [(q0, .inr (0, [.ref q1, .int (nI z), .int lw, .int hg, .int (bv O), .int (bv U), .int (nI mv)])), (q1, .inl (cA, 60, .inl (fun j => nI (M j))))]
/-- the signs alone: zs bearers Mb, T taken -/
def gW (q0 q1 q2 : Nat) (cA : ClassId) (zs : Nat) (Mb T : Nat → Nat) : va_W := [(q0, .inr (3, [.ref q1, .int (nI zs), .ref q2])), (q1, .inl (cA, 60, .inl (fun j => nI (Mb j)))), (q2, .inl (cA, 61, .inl (fun j => nI (T j))))]
/-- a row alone -/
def aW (q0 : Nat) (cA : ClassId) (N : Nat) (f : Nat → Int32) : va_W := [(q0, .inl (cA, N, .inl f))]
/-- the layout. l: rows 1 step, 2 stem, 3 aside, 4 moved, 5 chordSize, 7 high, 8 low, 9 noteCount, 10 chordCount, 11 signColumns, 12 mostMoved; C the columns of signs -/
noncomputable def lyW (c : Nat → Nat) (cA cC : ClassId) (sl : Prop) (l1 l2 l3 l4 l5 : Nat → Int32) (C : Nat → Nat) (l7 l8 l9 l10 l11 l12 : Nat → Int32) : va_W :=
  [(c 14, .inr (1, [.int (bv sl), .ref (c 15), .ref (c 16), .ref (c 17), .ref (c 18), .ref (c 19), .ref (c 20), .ref (c 21), .ref (c 22), .ref (c 23), .ref (c 24), .ref (c 25), .ref (c 26), .ref (c 27), .ref (c 34)])),
   (c 15, .inl (cA, 60, .inl l1)), (c 16, .inl (cA, 60, .inl l2)), (c 17, .inl (cA, 60, .inl l3)), (c 18, .inl (cA, 60, .inl l4)), (c 19, .inl (cA, 60, .inl l5)), (c 20, .inl (cA, 60, .inl (fun j => nI (C j)))),
   (c 21, .inl (cA, 400, .inl l7)), (c 22, .inl (cA, 400, .inl l8)), (c 23, .inl (cA, 400, .inl l9)), (c 24, .inl (cA, 400, .inl l10)), (c 25, .inl (cA, 400, .inl l11)), (c 26, .inl (cA, 400, .inl l12)),
   (c 27, .inl (cC, 3, .inr (.inr (.inr (.inr (fun i => some (c (28 + i))))))))]
theorem upd_nI (M : Nat → Nat) (k x : Nat) : upd (fun j => nI (M j)) k (nI x) = fun j => nI (va_up M k x j) := by
  funext j
  unfold upd va_up
  split <;> rfl
section
variable {p : Program} {l : Launch} {e : Env} {R : Room} {s : State} {m : MethodId} {args : Array Value} {below : List Frame} {meth : Method} {c : Code} {H : Heap} {locs : List Loc} {cells slots : Nat} {Q : State → Prop} {cc : ByteArray} {pc : Nat} {ls : Array Slot} {rest : List Value} {D : va_G} {tys : List (ClassId × FieldType)} {A : Nat → Prop} {ws : va_W}
theorem x_iastN {H0 : Heap} (hexec : p.tables.exec = Jvm.exec) (hb : c.code = cc) (hK : kK D tys s) (hP : va_P D vwCl ws H) (hD : va_D A ws) (hS : va_S A H0 H locs) (q0 t0 : Nat) {a : Nat} {cA : ClassId} {n : Nat} {M : Nat → Nat} (ha : ws[q0]? = some (a, .inl (cA, n, .inl (fun j => nI (M j))))) (ht : tys[t0]? = some (cA, .int)) {k x : Nat} (hk : k < n) (hn : n < 2 ^ 31) (hdg : decode cc pc = .ok (.iastore, 1))
    (kk : ∀ (H1 : Heap) (locs1 : List Loc), va_P D vwCl (ws.set q0 (a, .inl (cA, n, .inl (fun j => nI (va_up M k x j))))) H1 → va_D A (ws.set q0 (a, .inl (cA, n, .inl (fun j => nI (va_up M k x j))))) → va_S A H0 H1 locs1 → W p l e R s m args below meth c H1 locs1 cells slots Q (F0 m (pc + 1) ls rest)) : W p l e R s m args below meth c H locs cells slots Q (F0 m pc ls (.int (nI x) :: .int (nI k) :: .ref a :: rest)) := by
  refine x_iast hexec hb hK hP hD hS q0 t0 ha ht hk hn hdg ?_
  rw [upd_nI]
  exact kk
end
/-! what the class reckons -/
def rTurn (sp : Nat → Int32) (M : Nat → Nat) (U : Prop) [Decidable U] (as : Nat → Int32) : Nat → (Nat → Int32)
  | 0 => as
  | i + 1 => upd (rTurn sp M U as i) (M i) (rAsV sp M i U)
/-- a number that is small, as steps are -/
def spB (x : Int32) : Prop := -1000 < x.toInt ∧ x.toInt < 1000
theorem spB_sub {x y : Int32} (hx : spB x) (hy : spB y) : (x - y).toInt = x.toInt - y.toInt := by
  obtain ⟨h1, h2⟩ := hx
  obtain ⟨h3, h4⟩ := hy
  rw [Int32.toInt_sub]
  exact Int.bmod_eq_of_le (by omega) (by omega)
def absI (x : Int32) : Int32 := if 0 ≤ x then x else 0 - x
theorem abs_int {x y : Int32} (hx : spB x) (hy : spB y) : (absI (x - y)).toInt = if x.toInt - y.toInt < 0 then y.toInt - x.toInt else x.toInt - y.toInt := by
  have h := spB_sub hx hy
  obtain ⟨h1, h2⟩ := hx
  obtain ⟨h3, h4⟩ := hy
  unfold absI
  by_cases c : 0 ≤ x - y
  · rw [if_pos c]
    have := Int32.le_iff_toInt_le.mp c
    rw [Int32.toInt_zero, h] at this
    rw [if_neg (by omega), h]
  · rw [if_neg c]
    have : ¬ (0 : Int32).toInt ≤ (x - y).toInt := fun q => c (Int32.le_iff_toInt_le.mpr q)
    rw [Int32.toInt_zero, h] at this
    rw [if_pos (by omega), Int32.toInt_sub, Int32.toInt_zero, h]
    rw [Int.bmod_eq_of_le (by omega) (by omega)]
    omega
theorem abs_le1 {x y : Int32} (hx : spB x) (hy : spB y) : ¬ 1 < absI (x - y) ↔ ¬ x - y < -1 ∧ ¬ 1 < x - y := by
  have h := spB_sub hx hy
  have ha := abs_int hx hy
  rw [Int32.lt_iff_toInt_lt, Int32.lt_iff_toInt_lt, Int32.lt_iff_toInt_lt, ha, h, show (1 : Int32).toInt = 1 by decide, show (-1 : Int32).toInt = -1 by decide]
  split <;> omega
theorem abs_lt6 {x y : Int32} (hx : spB x) (hy : spB y) : absI (x - y) < 6 ↔ -6 < x - y ∧ x - y < 6 := by
  have h := spB_sub hx hy
  have ha := abs_int hx hy
  rw [Int32.lt_iff_toInt_lt, Int32.lt_iff_toInt_lt, Int32.lt_iff_toInt_lt, ha, h, show (6 : Int32).toInt = 6 by decide, show (-6 : Int32).toInt = -6 by decide]
  split <;> omega
abbrev cBef (U : Prop) (s o : Int32) : Prop := (U ∧ s < o) ∨ (¬ U ∧ o < s)
/-- one head put at its place: t shifts -/
def rIns (R : Nat → Nat) (i : Nat) : Nat → (Nat → Nat)
  | 0 => R
  | t + 1 => va_up (rIns R i t) (i - t) (rIns R i t (i - t - 1))
/-- the heads behind the first i ones being sorted, by the shifts tt -/
def rSrt (R : Nat → Nat) (tt : Nat → Nat) : Nat → (Nat → Nat)
  | 0 => R
  | i + 1 => va_up (rIns (rSrt R tt i) (i + 1) (tt i)) (i + 1 - tt i) (rSrt R tt i (i + 1))
/-- tt are the shifts that the class makes: head i + 1 goes behind what is not after it -/
def rSrtOk (sp : Nat → Int32) (U : Prop) (R : Nat → Nat) (tt : Nat → Nat) (z : Nat) : Prop := ∀ i, i + 1 < z → tt i ≤ i + 1 ∧ (∀ t, t < tt i → cBef U (sp (rSrt R tt i (i + 1))) (sp (rIns (rSrt R tt i) (i + 1) t (i + 1 - t - 1)))) ∧ (tt i < i + 1 → ¬ cBef U (sp (rSrt R tt i (i + 1))) (sp (rIns (rSrt R tt i) (i + 1) (tt i) (i + 1 - tt i - 1))))
def enc1 (o : Option Nat) : Int32 := match o with
  | none => -1
  | some j => nI j
def oPick (sp : Nat → Int32) (C Mb : Nat → Nat) (ev : Prop) [Decidable ev] : Nat → Option Nat
  | 0 => none
  | i + 1 => if C (Mb i) = 0 ∧ rBet sp ev (Mb i) (oPick sp C Mb ev i) = true then some (Mb i) else oPick sp C Mb ev i
theorem oPick_lt {sp : Nat → Int32} {C Mb : Nat → Nat} {ev : Prop} [Decidable ev] {zs j : Nat} (h : oPick sp C Mb ev zs = some j) : ∃ i, i < zs ∧ j = Mb i := by
  induction zs with
  | zero => cases h
  | succ n ih =>
    unfold oPick at h
    split at h
    · cases h
      exact ⟨n, Nat.lt_succ_self n, rfl⟩
    · obtain ⟨i, hi, e⟩ := ih h
      exact ⟨i, Nat.lt_succ_of_lt hi, e⟩
abbrev cMat (sp si : Nat → Int32) (C : Nat → Nat) (x o : Nat) : Prop := 0 < C o ∧ sp o = sp x ∧ si o = si x
def rTk (sp : Nat → Int32) (C Mb : Nat → Nat) (x tu : Nat) (T : Nat → Nat) : Nat → (Nat → Nat)
  | 0 => T
  | i + 1 => if absI (sp (Mb i) - sp x) < 6 then va_up (rTk sp C Mb x tu T i) (C (Mb i)) tu else rTk sp C Mb x tu T i
/-- the column that the class finds -/
def cColFor (sp si : Nat → Int32) (C Mb : Nat → Nat) (zs x tu : Nat) (T : Nat → Nat) (r : Nat) : Prop :=
  (∃ i, i < zs ∧ cMat sp si C x (Mb i) ∧ (∀ y, y < i → ¬ cMat sp si C x (Mb y)) ∧ r = C (Mb i)) ∨
  ((∀ y, y < zs → ¬ cMat sp si C x (Mb y)) ∧ ∃ d, d < 60 ∧ r = d + 1 ∧ (d < 59 → ¬ rTk sp C Mb x tu T zs (d + 1) = tu) ∧ ∀ k, k < d → rTk sp C Mb x tu T zs (k + 1) = tu)
theorem rTk_le {sp : Nat → Int32} {C Mb : Nat → Nat} {x tu : Nat} {T : Nat → Nat} (h : ∀ j, j < 61 → T j ≤ tu) (i j : Nat) (hj : j < 61) : rTk sp C Mb x tu T i j ≤ tu := by
  induction i with
  | zero => exact h j hj
  | succ i ih =>
    unfold rTk
    split
    · unfold va_up
      split
      · exact Nat.le_refl _
      · exact ih
    · exact ih
/-- the columns, i signs placed -/
def cSgn (C g r : Nat → Nat) : Nat → (Nat → Nat)
  | 0 => C
  | i + 1 => va_up (cSgn C g r i) (g i) (r i)
def cTop (r : Nat → Nat) : Nat → Nat
  | 0 => 0
  | i + 1 => max (cTop r i) (r i)
/-- g and r go through the signs as the class does: for every state of 'taken' that is of earlier turns -/
def cSigns (sp si : Nat → Int32) (C Mb : Nat → Nat) (zs : Nat) (g r : Nat → Nat) : Prop := ∀ i, i < zs → oPick sp (cSgn C g r i) Mb (i % 2 = 0) zs = some (g i) ∧ ∀ T : Nat → Nat, (∀ j, j < 61 → T j ≤ i) → cColFor sp si (cSgn C g r i) Mb zs (g i) (i + 1) T (r i)
theorem enc1_neg {j : Nat} (h : j < 60) : ¬ nI j < 0 := nI_pos (by omega)
theorem mxI_nI {a b : Nat} (ha : a < 2 ^ 31) (hb : b < 2 ^ 31) : (if nI a < nI b then nI b else nI a) = nI (max a b) := by
  by_cases h : a < b
  · rw [if_pos (nI_lt h hb), Nat.max_eq_right (by omega)]
  · rw [if_neg (nI_nlt (by omega) ha), Nat.max_eq_left (by omega)]
def fIll (f : Nat → Nat) (x : Nat) : Nat → (Nat → Nat)
  | 0 => f
  | k + 1 => va_up (fIll f x k) k x
theorem fIll_all (f : Nat → Nat) (x N j : Nat) (h : j < N) : fIll f x N j = x := by
  induction N with
  | zero => exact absurd h (Nat.not_lt_zero _)
  | succ N ih =>
    unfold fIll va_up
    split
    · rfl
    · exact ih (by omega)
def fIllI (f : Nat → Int32) (x : Int32) : Nat → (Nat → Int32)
  | 0 => f
  | k + 1 => upd (fIllI f x k) k x
theorem fIllI_all (f : Nat → Int32) (x : Int32) (N j : Nat) (h : j < N) : fIllI f x N j = x := by
  induction N with
  | zero => exact absurd h (Nat.not_lt_zero _)
  | succ N ih =>
    unfold fIllI upd
    split
    · rfl
    · exact ih (by omega)
theorem fIll_nI (f : Nat → Nat) (x N : Nat) : fIllI (fun j => nI (f j)) (nI x) N = fun j => nI (fIll f x N j) := by
  induction N with
  | zero => rfl
  | succ N ih =>
    unfold fIllI fIll
    rw [ih, upd_nI]
theorem cSgn_lt {C g r : Nat → Nat} (hC : ∀ j, C j < 61) (hr : ∀ i, r i < 61) (i j : Nat) : cSgn C g r i j < 61 := by
  induction i with
  | zero => exact hC j
  | succ i ih =>
    unfold cSgn va_up
    split
    · exact hr i
    · exact ih
theorem cTop_lt {r : Nat → Nat} (hr : ∀ i, r i < 61) (i : Nat) : cTop r i < 61 := by
  induction i with
  | zero => exact Nat.zero_lt_succ _
  | succ i ih => unfold cTop; have := hr i; omega
section
variable {p : Program} {l : Launch} {e : Env} {R : Room} {s : State} {m : MethodId} {args : Array Value} {below : List Frame} {meth : Method} {c : Code} {H : Heap} {locs : List Loc} {cells slots : Nat} {Q : State → Prop} {cc : ByteArray} {pc : Nat} {ls : Array Slot} {rest st0 : List Value} {D : va_G} {A : Nat → Prop} {ws : va_W} {y : MethodName} {bytes : ByteArray} {maxL nL mc ms n index : Nat} {ret : Option FieldType} {wsy : List Cond} {rm : Room} {Ts : List Cond} {own : String} {As : List Value}
theorem wcSv {S0 : Type} {wc wr : va_W} {w1 : S0 → va_W} {tyc : List (ClassId × FieldType)} {post : S0 → Prop} {H0 : Heap} (S : CallFix p m c cc nL s args Ts own) (hM : Met l y wsy rm (wPc D wc tyc H.size As) (va_Qv post (wB D wc H.size w1) (va_A wc H.size)) mc ms (va_A wc H.size)) (cw : CallB R s args own index y bytes maxL ret wsy rm mc ms n ∧ (Cond.static y).before args s = true)
    (hP : va_P D vwCl ws H) (hD : va_D A ws) (hS : va_S A H0 H locs) (hA : ∀ q, H0.size ≤ q → A q) (hK : kK D tyc s) (isC isR : List Nat) (hC : isC.map (fun i => ws[i]?) = wc.map some) (hR : isR.map (fun i => ws[i]?) = wr.map some) (hnC : va_nd isC = true) (hnR : va_nd isR = true) (hdis : ∀ i ∈ isR, i ∉ isC)
    (hn : As.length = n) (hsize : ls.size = nL) (hstack : st0 = As.reverse ++ rest) (hW : (rest.map fun v => v.category).sum ≤ 8) (hdg : decode cc pc = .ok (.invokestatic index, 3)) (hf : cells + mc ≤ R.cells ∧ slots + ms ≤ R.slots)
    (kk : ∀ (u : S0) (H1 : Heap) (locs1 : List Loc), post u → va_P D vwCl (wr ++ w1 u) H1 → va_D A (wr ++ w1 u) → va_S A H0 H1 locs1 → W p l e R s m args below meth c H1 locs1 (cells + mc) (slots + ms) Q (F0 m (pc + 3) ls rest)) : W p l e R s m args below meth c H locs cells slots Q (F0 m pc ls st0) := by
  have hDc := hD.sub (ws' := wc) isC hnC hC
  have hPc : va_P D vwCl wc H := fun k q hk => by
    have h1 : (isC.map (fun i => ws[i]?))[k]? = some (some q) := by rw [hC, List.getElem?_map, hk]; rfl
    rw [List.getElem?_map] at h1
    cases hi : isC[k]? with
    | none => rw [hi] at h1; cases h1
    | some i => rw [hi] at h1; exact hP i q (Option.some.inj h1)
  have hFc := va_free (wc := wc) hD hS hA isC hC
  refine va_callv (va_runS S hM cw ⟨wPc_blind, fun U hU hW => ⟨rfl, by rw [hU], by rw [hU]; exact hPc, hDc.weaken (fun _ _ _ _ => trivial), hK.warm hW⟩⟩ rfl hn hsize hstack (lv_room hW) hdg hf) hS (fun q _ h => hFc q h) hFc (fun u t H1 locs1 ht hvm hp hB hz1 hk1 hS1 => ?_)
  obtain ⟨hP1, hD1⟩ := hB
  rw [ht] at hP1
  obtain ⟨hP2, hD2⟩ := va_join (wr := wr) (w1 := w1 u) hP hD isC isR hC hR hnR hdis hk1 hFc hP1 hD1
  exact kk u H1 locs1 hp hP2 hD2 hS1
end
noncomputable def cI (P : Prop) (x y : Int32) : Int32 := @ite Int32 P (Classical.propDecidable P) x y
theorem cI_t {P : Prop} {x y : Int32} (h : P) : cI P x y = x := @if_pos P (Classical.propDecidable P) h Int32 x y
theorem cI_f {P : Prop} {x y : Int32} (h : ¬ P) : cI P x y = y := @if_neg P (Classical.propDecidable P) h Int32 x y
