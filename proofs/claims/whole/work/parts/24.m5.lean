/-! PURE MATHEMATICS 5: ONE PLACE LAID. What the rows hold of a place (s, t), its cell ce: as the reference reckons it -/
def CellOK (a : Nat → Nat → Int32) (n : Nat) (spk : Nat → Int32) (s t : Int32) (ce : Nat) (l2 l3 l4 l5 : Nat → Int32) (C : Nat → Nat) (l7 l8 l9 l10 l11 l12 : Nat → Int32) : Prop :=
  ∃ (as : Nat → Int32) (d g r : Nat → Nat),
    (∀ sp sc co : Nat → Int32, (∀ k, k < n → sp k = spk k) → (∀ k, k < n → sc k = 0) →
      rAsides (a 7) (a 8) (a 9) sp n s t as ∧ rMoves (a 7) (a 8) (a 9) sp (a 12) (a 11) n s t co as d ∧ rSigns (a 7) (a 9) sp (a 11) sc n s t g (fun i => nI (r i)) ∧
      (∀ x, x < n → rAt (a 7) (a 9) x s t → l2 x = bv (rUp (a 7) (a 8) (a 9) sp n s t (a 8 x)) ∧ rSgn sc g (fun i => nI (r i)) (rLeft (a 7) (a 9) (a 11) s t n) x = nI (C x)) ∧
      l7 ce = rHigh (a 7) (a 8) (a 9) sp (a 12) n s t n ∧ l8 ce = rLow (a 7) (a 8) (a 9) sp (a 12) n s t n ∧ rMost (rSgn sc g (fun i => nI (r i)) (rLeft (a 7) (a 9) (a 11) s t n)) n = l11 ce) ∧
    (∀ x, x < n → rAt (a 7) (a 9) x s t → l3 x = as x ∧ ∀ v, v < 3 → a 8 x = nI v → l4 x = nI (d v) ∧ l5 x = nI (rMany (a 7) (a 8) (a 9) s t (nI v) n)) ∧
    l9 ce = nI (rAll (a 7) (a 8) (a 9) n s t 3) ∧ l10 ce = nI (rChs (a 7) (a 8) (a 9) n s t 3) ∧ (0 < l12 ce ↔ 0 < d 0 + d 1 + d 2)
theorem CellOK_frame {a : Nat → Nat → Int32} {n : Nat} {spk : Nat → Int32} {s t : Int32} {ce : Nat} {l2 l3 l4 l5 : Nat → Int32} {C : Nat → Nat} {l7 l8 l9 l10 l11 l12 : Nat → Int32} {l2' l3' l4' l5' : Nat → Int32} {C' : Nat → Nat} {l7' l8' l9' l10' l11' l12' : Nat → Int32} (h : CellOK a n spk s t ce l2 l3 l4 l5 C l7 l8 l9 l10 l11 l12)
    (hr : ∀ x, x < n → rAt (a 7) (a 9) x s t → l2' x = l2 x ∧ l3' x = l3 x ∧ l4' x = l4 x ∧ l5' x = l5 x ∧ C' x = C x) (h7 : l7' ce = l7 ce) (h8 : l8' ce = l8 ce) (h9 : l9' ce = l9 ce) (h10 : l10' ce = l10 ce) (h11 : l11' ce = l11 ce) (h12 : l12' ce = l12 ce) : CellOK a n spk s t ce l2' l3' l4' l5' C' l7' l8' l9' l10' l11' l12' := by
  obtain ⟨as, d, g, r, q1, q2, q3, q4, q5⟩ := h
  refine ⟨as, d, g, r, fun sp sc co e1 e2 => ?_, fun x hx ha => ?_, by rw [h9]; exact q3, by rw [h10]; exact q4, by rw [h12]; exact q5⟩
  · obtain ⟨w1, w2, w3, w4, w5, w6, w7⟩ := q1 sp sc co e1 e2
    refine ⟨w1, w2, w3, fun x hx ha => ?_, by rw [h7]; exact w5, by rw [h8]; exact w6, by rw [h11]; exact w7⟩
    obtain ⟨e2, e3, e4, e5, e6⟩ := hr x hx ha
    rw [e2, e6]
    exact w4 x hx ha
  · obtain ⟨e2, e3, e4, e5, e6⟩ := hr x hx ha
    rw [e3, e4, e5]
    exact q2 x hx ha
theorem rMost_0 {sc : Nat → Int32} {n : Nat} (h : ∀ k, k < n → sc k = 0) : rMost sc n = 0 := by
  refine eq_le (fun b => ?_)
  rw [rMost_le, Int32.toInt_zero]
  exact ⟨fun q => q.1, fun q => ⟨q, fun k hk => by rw [h k hk, Int32.toInt_zero]; exact q⟩⟩
theorem rMany_0 {st vo ti : Nat → Int32} {s t v : Int32} {n : Nat} (h : ∀ k, k < n → ¬ rAt st ti k s t) : rMany st vo ti s t v n = 0 := by
  have := rMany_pos (st := st) (vo := vo) (ti := ti) (s := s) (t := t) (v := v) n
  rcases Nat.eq_zero_or_pos (rMany st vo ti s t v n) with q | q
  · exact q
  · obtain ⟨k, hk, hi⟩ := this.mp q
    exact absurd hi.1 (h k hk)
theorem rLeft_0 {st ti si : Nat → Int32} {s t : Int32} {n : Nat} (h : ∀ k, k < n → ¬ rAt st ti k s t) : rLeft st ti si s t n = 0 := by
  induction n with
  | zero => rfl
  | succ n ih => rw [rLeft_f2 (fun q => h n (Nat.lt_succ_self n) q.1)]; exact ih (fun k hk => h k (by omega))
theorem rHigh_0 {st vo ti sp he : Nat → Int32} {s t : Int32} {n N m : Nat} (h : ∀ k, k < n → ¬ rAt st ti k s t) (hm : m ≤ n) : rHigh st vo ti sp he N s t m = 8 ∧ rLow st vo ti sp he N s t m = 0 := by
  induction m with
  | zero => exact ⟨rfl, rfl⟩
  | succ m ih => rw [rHigh_n (h m (by omega)), rLow_n (h m (by omega))]; exact ih (by omega)
/-- a place without notes is right as it is cleared -/
theorem cell_empty {a : Nat → Nat → Int32} {n : Nat} {spk : Nat → Int32} {s t : Int32} {ce : Nat} {l2 l3 l4 l5 : Nat → Int32} {C : Nat → Nat} {l7 l8 l9 l10 l11 l12 : Nat → Int32} (h : ∀ k, k < n → ¬ rAt (a 7) (a 9) k s t) (h7 : l7 ce = 8) (h8 : l8 ce = 0) (h9 : l9 ce = 0) (h10 : l10 ce = 0) (h11 : l11 ce = 0) (h12 : l12 ce = 0) : CellOK a n spk s t ce l2 l3 l4 l5 C l7 l8 l9 l10 l11 l12 := by
  have hl : rLeft (a 7) (a 9) (a 11) s t n = 0 := rLeft_0 h
  refine ⟨l3, fun _ => 0, fun _ => 0, fun _ => 0, fun sp sc co e1 e2 => ⟨fun x hx ha => absurd ha (h x hx), fun v hv => ⟨by show 0 < 100; omega, fun q => q (fun x hx y hy z => h x hx z.1.1), fun i hi => absurd hi (Nat.not_lt_zero i)⟩, fun i hi => ?_, fun x hx ha => absurd ha (h x hx), ?_, ?_, ?_⟩, fun x hx ha => absurd ha (h x hx), ?_, ?_, ?_⟩
  · rw [hl] at hi; exact absurd hi (Nat.not_lt_zero i)
  · rw [h7, (rHigh_0 h (Nat.le_refl n)).1]
  · rw [h8, (rHigh_0 h (Nat.le_refl n)).2]
  · rw [hl, h11]; exact rMost_0 e2
  · rw [h9]; simp only [rAll, rMany_0 h]; rfl
  · rw [h10]; simp only [rChs, rMany_0 h]; rfl
  · rw [h12]; exact iff_ff (by decide) (by show ¬ 0 < 0 + 0 + 0; omega)
theorem cell_laid {a : Nat → Nat → Int32} {n : Nat} {spk : Nat → Int32} {s t : Int32} {ce : Nat} {l1 l2 l3 l4 l5 : Nat → Int32} {C : Nat → Nat} {l7 l8 l9 l10 l11 l12 : Nat → Int32} {lw hg : Nat → Int32} {U : Nat → Prop} {M : Nat → Nat → Nat} {Mb : Nat → Nat}
    {gz : Nat → Nat} {gl gh : Nat → Int32} {go : Nat → Prop} {gm : Nat → Nat → Nat} {Z9 : Nat} {B9 : Nat → Nat} {r9 : Nat → Int32} {uu : Nat → Prop} {r2 r10 : Nat → Int32}
    (hgz : gz = fun v => rMany (a 7) (a 8) (a 9) s t (nI v) n) (hgl : gl = fun v => gLw (a 7) (a 8) (a 9) l1 s t (nI v) (lw v) n) (hgh : gh = fun v => gHg (a 7) (a 8) (a 9) l1 s t (nI v) (hg v) n) (hgo : go = fun v => gO (a 7) (a 8) (a 9) (a 12) s t (nI v) n) (hgm : gm = fun v => gM (a 7) (a 8) (a 9) s t (nI v) (M v) n) (hZ9 : Z9 = rLeft (a 7) (a 9) (a 11) s t n) (hB9 : B9 = gB (a 7) (a 9) (a 11) s t Mb n) (hr9 : r9 = upd l9 ce (nI (rTot (a 7) (a 9) s t n))) (huu : uu = fun v => cUp gz gl gh U v) (hr2 : r2 = cStm (cStm (cStm l2 (gm 0) (uu 0) (gz 0)) (gm 1) (uu 1) (gz 1)) (gm 2) (uu 2) (gz 2)) (hr10 : r10 = upd l10 ce (nI (cCnt gz 3)))
    (hn : n ≤ 60) (hvo : ∀ k, k < n → a 8 k = nI 0 ∨ a 8 k = nI 1 ∨ a 8 k = nI 2) (hb : ∀ k, k < n → spB (spk k)) (h1 : ∀ k, k < n → l1 k = spk k) (hM : ∀ v i, M v i < 60) (hC : ∀ k, k < n → rAt (a 7) (a 9) k s t → C k = 0) (h7 : l7 ce = 8) (h8 : l8 ce = 0) (h12 : l12 ce = 0) :
    ∃ tt : Nat → Nat → Nat, (∀ v, v < 3 → rSrtOk l1 (uu v) (gm v) (tt v) (gz v)) ∧ ∀ (mm : Nat → Nat → Nat) (r3 : Nat → Int32), mm = (fun v => rSrt (gm v) (tt v) (gz v - 1)) → r3 = cTurn l1 (mm 2) (uu 2) (cTurn l1 (mm 1) (uu 1) (cTurn l1 (mm 0) (uu 0) l3 (gz 0)) (gz 1)) (gz 2) →
      (∀ v i, v < 3 → i < gz v → spB (l1 (mm v i))) ∧ ∃ d g r : Nat → Nat, d 0 = 0 ∧ d 1 < 16 ∧ d 2 < 16 ∧ (¬ (cOver l1 r2 r3 (a 12) (a 11) (gz 1) (d 1) (mm 1) (gz 0) 0 (mm 0))) ∧ (∀ i, i < d 1 → cOver l1 r2 r3 (a 12) (a 11) (gz 1) i (mm 1) (gz 0) 0 (mm 0)) ∧ (¬ (cOver l1 r2 r3 (a 12) (a 11) (gz 2) (d 2) (mm 2) (gz 0) 0 (mm 0) ∨ cOver l1 r2 r3 (a 12) (a 11) (gz 2) (d 2) (mm 2) (gz 1) (d 1) (mm 1))) ∧ (∀ i, i < d 2 → cOver l1 r2 r3 (a 12) (a 11) (gz 2) i (mm 2) (gz 0) 0 (mm 0) ∨ cOver l1 r2 r3 (a 12) (a 11) (gz 2) i (mm 2) (gz 1) (d 1) (mm 1)) ∧ (∀ i, r i < 61) ∧ cSigns l1 (a 11) C B9 Z9 g r ∧
        ∀ k4 k5 k7 k8 k12 : Nat → Nat → Int32, k4 0 = l4 → (∀ v, v < 3 → k4 (v + 1) = cRow (k4 v) (mm v) (nI (d v)) (gz v)) → k5 0 = l5 → (∀ v, v < 3 → k5 (v + 1) = cRow (k5 v) (mm v) (nI (gz v)) (gz v)) → k7 0 = l7 → (∀ v, v < 3 → k7 (v + 1) = if 0 < gz v then upd (k7 v) ce (mxI (k7 v ce) (cI (uu v ∧ ¬ go v) (mxI (gh v + 7) 4) (gh v))) else k7 v) → k8 0 = l8 → (∀ v, v < 3 → k8 (v + 1) = if 0 < gz v then upd (k8 v) ce (mnI (k8 v ce) (cI (¬ uu v ∧ ¬ go v) (mnI (gl v - 7) 4) (gl v))) else k8 v) → k12 0 = l12 → (∀ v, v < 3 → k12 (v + 1) = if 0 < gz v then upd (k12 v) ce (mxI (k12 v ce) (nI (d v))) else k12 v) →
          CellOK a n spk s t ce r2 r3 (k4 3) (k5 3) (cSgn C g r Z9) (k7 3) (k8 3) r9 r10 (upd l11 ce (nI (cTop r Z9))) (k12 3) ∧ (∀ x, ¬ (x < n ∧ rAt (a 7) (a 9) x s t) → r2 x = l2 x ∧ r3 x = l3 x ∧ k4 3 x = l4 x ∧ k5 3 x = l5 x ∧ cSgn C g r Z9 x = C x) ∧ ∀ x, ¬ x = ce → k7 3 x = l7 x ∧ k8 3 x = l8 x ∧ r9 x = l9 x ∧ r10 x = l10 x ∧ upd l11 ce (nI (cTop r Z9)) x = l11 x ∧ k12 3 x = l12 x := by
  have hz : ∀ v, gz v = rMany (a 7) (a 8) (a 9) s t (nI v) n := fun v => by rw [hgz]
  have hb1 : ∀ k, k < n → spB (l1 k) := fun k hk => by rw [h1 k hk]; exact hb k hk
  have gspec : ∀ v, (∀ j, j < gz v → gm v j < n ∧ rIn (a 7) (a 8) (a 9) (gm v j) s t (nI v)) ∧ (∀ i j, i < j → j < gz v → gm v i < gm v j) ∧ (∀ k, k < n → rIn (a 7) (a 8) (a 9) k s t (nI v) → ∃ j, j < gz v ∧ gm v j = k) := fun v => by
    rw [hgm, hz v]; exact gM_spec _ _ _ _ _ _ _ _
  have hup : ∀ sp : Nat → Int32, (∀ k, k < n → sp k = spk k) → ∀ v, v < 3 → 0 < gz v → (uu v ↔ rUp (a 7) (a 8) (a 9) sp n s t (nI v)) := by
    intro sp hs v hv h0
    rw [hz v] at h0
    rw [huu, hgz, hgl, hgh]
    exact up_ok (fun k hk => by rw [hs k hk, h1 k hk]) hb1 hv h0
  have hvv : ∀ x, x < n → ∃ v, v < 3 ∧ a 8 x = nI v := by
    intro x hx
    rcases hvo x hx with e | e | e
    · exact ⟨0, by omega, e⟩
    · exact ⟨1, by omega, e⟩
    · exact ⟨2, by omega, e⟩
  have hsr : ∀ v, ∃ tv : Nat → Nat, rSrtOk l1 (uu v) (gm v) tv (gz v) ∧ (∀ p q, p < q → q < gz v → kNum l1 (uu v) (rSrt (gm v) tv (gz v - 1) p) < kNum l1 (uu v) (rSrt (gm v) tv (gz v - 1) q)) ∧ (∀ p, p < gz v → ∃ j, j < gz v ∧ rSrt (gm v) tv (gz v - 1) p = gm v j) ∧ (∀ j, j < gz v → ∃ p, p < gz v ∧ rSrt (gm v) tv (gz v - 1) p = gm v j) := by
    intro v
    obtain ⟨g1, g2, g3⟩ := gspec v
    refine srt_ex l1 (uu v) (gm v) (kNum l1 (uu v)) (gz v) (fun i j hi hj => ?_) (fun i j hi hj e => ?_)
    · have := (g1 i hi).1; exact kNum_bef (by omega) (g2 j i hj hi)
    · have e1 := (g1 i hi).1
      have e2 := (g1 j (by omega)).1
      have e3 := g2 j i hj hi
      have := kNum_inj (by omega) (by omega) e
      omega
  obtain ⟨tt, htt⟩ := Classical.axiomOfChoice hsr
  refine ⟨tt, fun v _ => (htt v).1, ?_⟩
  intro mm r3 hmm hr3
  have mspec : ∀ v, (∀ j, j < gz v → mm v j < n ∧ rIn (a 7) (a 8) (a 9) (mm v j) s t (nI v)) ∧ (∀ k, k < n → rIn (a 7) (a 8) (a 9) k s t (nI v) → ∃ j, j < gz v ∧ mm v j = k) ∧ (∀ p q, p < q → q < gz v → kNum l1 (uu v) (mm v p) < kNum l1 (uu v) (mm v q)) := by
    intro v
    obtain ⟨g1, g2, g3⟩ := gspec v
    obtain ⟨-, s2, s3, s4⟩ := htt v
    rw [hmm]
    refine ⟨fun j hj => ?_, fun k hk hi => ?_, s2⟩
    · obtain ⟨i, hi, e⟩ := s3 j hj
      show rSrt (gm v) (tt v) (gz v - 1) j < n ∧ rIn (a 7) (a 8) (a 9) (rSrt (gm v) (tt v) (gz v - 1) j) s t (nI v)
      rw [e]; exact g1 i hi
    · obtain ⟨j, hj, e⟩ := g3 k hk hi
      obtain ⟨p, hp, e2⟩ := s4 j hj
      exact ⟨p, hp, e2.trans e⟩
  have minj : ∀ v p q, p < q → q < gz v → ¬ mm v p = mm v q := fun v p q h h' e => by
    have := (mspec v).2.2 p q h h'
    rw [e] at this
    omega
  have gnot : ∀ v w x, v < 3 → w < 3 → ¬ v = w → a 8 x = nI v → ∀ i, i < gz w → ¬ gm w i = x := fun v w x hv hw hne e i hi q => hne (nI3_inj hv hw (by rw [← e, ← q]; exact ((gspec w).1 i hi).2.2))
  have mnot : ∀ v w x, v < 3 → w < 3 → ¬ v = w → a 8 x = nI v → ∀ i, i < gz w → ¬ mm w i = x := fun v w x hv hw hne e i hi q => hne (nI3_inj hv hw (by rw [← e, ← q]; exact ((mspec w).1 i hi).2.2))
  have gout : ∀ w x, ¬ (x < n ∧ rAt (a 7) (a 9) x s t) → ∀ i, i < gz w → ¬ gm w i = x := fun w x hx i hi q => hx (by rw [← q]; exact ⟨((gspec w).1 i hi).1, ((gspec w).1 i hi).2.1⟩)
  have mout : ∀ w x, ¬ (x < n ∧ rAt (a 7) (a 9) x s t) → ∀ i, i < gz w → ¬ mm w i = x := fun w x hx i hi q => hx (by rw [← q]; exact ⟨((mspec w).1 i hi).1, ((mspec w).1 i hi).2.1⟩)
  have v2 : ∀ v x, v < 3 → x < n → rIn (a 7) (a 8) (a 9) x s t (nI v) → r2 x = bv (uu v) := by
    intro v x hv hx hi
    have hin := (gspec v).2.2 x hx hi
    rw [hr2]
    rcases (show v = 0 ∨ v = 1 ∨ v = 2 by omega) with rfl | rfl | rfl
    · rw [cStm_out (gnot 0 2 x (by omega) (by omega) (by omega) hi.2), cStm_out (gnot 0 1 x (by omega) (by omega) (by omega) hi.2), cStm_in hin]
    · rw [cStm_out (gnot 1 2 x (by omega) (by omega) (by omega) hi.2), cStm_in hin]
    · rw [cStm_in hin]
  have v3 : ∀ v p, v < 3 → p < gz v → r3 (mm v p) = @rAsV l1 (mm v) p (uu v) (Classical.propDecidable (uu v)) := by
    intro v p hv hp
    have hi := ((mspec v).1 p hp).2
    rw [hr3]
    rcases (show v = 0 ∨ v = 1 ∨ v = 2 by omega) with rfl | rfl | rfl
    · rw [cTurn_out (mnot 0 2 _ (by omega) (by omega) (by omega) hi.2), cTurn_out (mnot 0 1 _ (by omega) (by omega) (by omega) hi.2), cTurn_in (minj 0) hp]
    · rw [cTurn_out (mnot 1 2 _ (by omega) (by omega) (by omega) hi.2), cTurn_in (minj 1) hp]
    · rw [cTurn_in (minj 2) hp]
  have as3 : ∀ x, x < n → rAt (a 7) (a 9) x s t → r3 x = -1 ∨ r3 x = 0 ∨ r3 x = 1 := by
    intro x hx ha
    obtain ⟨v, hv, e⟩ := hvv x hx
    obtain ⟨p, hp, e2⟩ := (mspec v).2.1 x hx ⟨ha, e⟩
    rw [← e2, v3 v p hv hp]
    exact rAsV_3 _ _ _ _ _
  refine ⟨fun v i hv hi => hb1 _ ((mspec v).1 i hi).1, ?_⟩
  obtain ⟨d, d0, d1, d2, hd⟩ := moves_ex (st := a 7) (vo := a 8) (ti := a 9) (l1 := l1) (l2 := r2) (as := r3) (he := a 12) (si := a 11) (n := n) (s := s) (t := t) as3
  obtain ⟨g, r, hr61, hgood⟩ := signs_ex (st := a 7) (ti := a 9) (l1 := l1) (si := a 11) (s := s) (t := t) (M0 := Mb) hn hb1 hC
  obtain ⟨sg1, sg2, sg3⟩ := signs_ok hn hC hgood
  have OVi : ∀ v w i j, cOver l1 r2 r3 (a 12) (a 11) (gz v) i (mm v) (gz w) j (mm w) ↔ OV (a 7) (a 8) (a 9) l1 r2 r3 (a 12) (a 11) n s t v i w j := fun v w i j => cOver_OV (mspec v).1 (mspec v).2.1 (mspec w).1 (mspec w).2.1 i j
  have hd1 := hd 1 (by omega)
  have hd2 := hd 2 (by omega)
  refine ⟨d, g, r, d0, d1, d2, ?_, ?_, ?_, ?_, hr61, by rw [hB9, hZ9]; exact sg1, ?_⟩
  · rw [OVi]; exact fun q => hd1.2.1 ⟨0, by omega, by rw [d0]; exact q⟩
  · intro i hi
    rw [OVi]
    obtain ⟨w, hw, q⟩ := hd1.2.2 i hi
    rw [show w = 0 by omega, d0] at q
    exact q
  · rw [OVi, OVi]
    rintro (q | q)
    · exact hd2.2.1 ⟨0, by omega, by rw [d0]; exact q⟩
    · exact hd2.2.1 ⟨1, by omega, q⟩
  · intro i hi
    rw [OVi, OVi]
    obtain ⟨w, hw, q⟩ := hd2.2.2 i hi
    rcases (show w = 0 ∨ w = 1 by omega) with rfl | rfl
    · rw [d0] at q; exact Or.inl q
    · exact Or.inr q
  intro k4 k5 k7 k8 k12 e40 e4 e50 e5 e70 e7 e80 e8 e120 e12
  refine ⟨⟨r3, d, g, r, fun sp sc co hs hsc => ?_, fun x hx ha => ⟨rfl, fun v hv e => ?_⟩, ?_, ?_, ?_⟩, fun x hx => ⟨?_, ?_, ?_, ?_, ?_⟩, fun x hx => ⟨?_, ?_, ?_, ?_, ?_, ?_⟩⟩
  · have hsl : ∀ k, k < n → sp k = l1 k := fun k hk => by rw [hs k hk, h1 k hk]
    have hbs : ∀ k, k < n → spB (sp k) := fun k hk => by rw [hs k hk]; exact hb k hk
    have hup := hup sp hs
    obtain ⟨sa, sb, scc⟩ := sg3 sp sc hsl hsc
    have hl2 : ∀ x, x < n → rAt (a 7) (a 9) x s t → r2 x = bv (rUp (a 7) (a 8) (a 9) sp n s t (a 8 x)) := by
      intro x hx ha
      obtain ⟨v, hv, e⟩ := hvv x hx
      rw [v2 v x hv hx ⟨ha, e⟩, e]
      exact bv_iff (hup v hv (by rw [hz v, rMany_pos]; exact ⟨x, hx, ha, e⟩))
    refine ⟨fun x hx ha => ?_, moves_ok hsl hb1 hvo hl2 hd, sa, fun x hx ha => ⟨hl2 x hx ha, by rw [hZ9]; exact sb x hx ha⟩, ?_, ?_, by rw [pk_us, hZ9]; exact scc⟩
    · obtain ⟨v, hv, e⟩ := hvv x hx
      obtain ⟨p, hp, e2⟩ := (mspec v).2.1 x hx ⟨ha, e⟩
      have hu := hup v hv (by omega)
      have hzn : gz v ≤ n := by rw [hz v]; exact rMany_le _ _ _ _ _ _ _
      refine ⟨mm v, p, by omega, ?_, ?_⟩
      · rw [e, ← e2]
        refine enum_ok (K := kNum sp (rUp (a 7) (a 8) (a 9) sp n s t (nI v))) (fun x y hx hy => kNum_ahead (by omega) (by omega) (hbs x hx) (hbs y hy)) (fun x y hx hy => kNum_inj (by omega) (by omega)) (mspec v).1 (fun p q hp hq => ?_) (mspec v).2.1 hp
        have := (mspec v).2.2 p q hp hq
        rw [kNum_congr (U' := rUp (a 7) (a 8) (a 9) sp n s t (nI v)) (hsl _ ((mspec v).1 p (by omega)).1).symm hu, kNum_congr (U' := rUp (a 7) (a 8) (a 9) sp n s t (nI v)) (hsl _ ((mspec v).1 q (by omega)).1).symm hu] at this
        exact this
      · rw [e, ← e2, v3 v p hv hp]
        exact rAsV_congr _ _ (fun i hi => (hsl _ ((mspec v).1 i (by omega)).1).symm) hu
    · refine eq_le (fun b => ?_)
      rw [row3_le (re := fun v => cI (uu v ∧ ¬ go v) (mxI (gh v + 7) 4) (gh v)) e7, e70, h7, rHigh_le, t8]
      have hre : ∀ v, v < 3 → 0 < gz v → 8 ≤ b → ((cI (uu v ∧ ¬ go v) (mxI (gh v + 7) 4) (gh v)).toInt ≤ b ↔ _) := fun v hv h0 h8 => reach_hi hbs (hup v hv h0) (by rw [hgo]; exact gO_iff n) (by rw [hgh]; exact (end_hi hsl hb1 n (Nat.le_refl n)).2 (by rw [← hz v]; exact h0)) h8
      constructor
      · rintro ⟨q1, q2⟩
        refine ⟨q1, fun k hk ha => ?_⟩
        obtain ⟨v, hv, e⟩ := hvv k hk
        have h0 : 0 < gz v := by rw [hz v, rMany_pos]; exact ⟨k, hk, ha, e⟩
        exact (hre v hv h0 q1).mp (q2 v hv h0) k hk ⟨ha, e⟩
      · rintro ⟨q1, q2⟩
        exact ⟨q1, fun v hv h0 => (hre v hv h0 q1).mpr (fun k hk hi => q2 k hk hi.1)⟩
    · refine eq_ge (fun b => ?_)
      rw [row3_ge (re := fun v => cI (¬ uu v ∧ ¬ go v) (mnI (gl v - 7) 4) (gl v)) e8, e80, h8, rLow_ge, Int32.toInt_zero]
      have hre : ∀ v, v < 3 → 0 < gz v → b ≤ 0 → (b ≤ (cI (¬ uu v ∧ ¬ go v) (mnI (gl v - 7) 4) (gl v)).toInt ↔ _) := fun v hv h0 h8 => reach_lo hbs (hup v hv h0) (by rw [hgo]; exact gO_iff n) (by rw [hgl]; exact (end_lo hsl hb1 n (Nat.le_refl n)).2 (by rw [← hz v]; exact h0)) h8
      constructor
      · rintro ⟨q1, q2⟩
        refine ⟨q1, fun k hk ha => ?_⟩
        obtain ⟨v, hv, e⟩ := hvv k hk
        have h0 : 0 < gz v := by rw [hz v, rMany_pos]; exact ⟨k, hk, ha, e⟩
        exact (hre v hv h0 q1).mp (q2 v hv h0) k hk ⟨ha, e⟩
      · rintro ⟨q1, q2⟩
        exact ⟨q1, fun v hv h0 => (hre v hv h0 q1).mpr (fun k hk hi => q2 k hk hi.1)⟩
  · have hin := (mspec v).2.1 x hx ⟨ha, e⟩
    rcases (show v = 0 ∨ v = 1 ∨ v = 2 by omega) with rfl | rfl | rfl
    · rw [e4 2 (by omega), e5 2 (by omega), cRow_out (mnot 0 2 x (by omega) (by omega) (by omega) e), cRow_out (mnot 0 2 x (by omega) (by omega) (by omega) e), e4 1 (by omega), e5 1 (by omega), cRow_out (mnot 0 1 x (by omega) (by omega) (by omega) e), cRow_out (mnot 0 1 x (by omega) (by omega) (by omega) e), e4 0 (by omega), e5 0 (by omega), cRow_in hin, cRow_in hin, hz 0]
      exact ⟨rfl, rfl⟩
    · rw [e4 2 (by omega), e5 2 (by omega), cRow_out (mnot 1 2 x (by omega) (by omega) (by omega) e), cRow_out (mnot 1 2 x (by omega) (by omega) (by omega) e), e4 1 (by omega), e5 1 (by omega), cRow_in hin, cRow_in hin, hz 1]
      exact ⟨rfl, rfl⟩
    · rw [e4 2 (by omega), e5 2 (by omega), cRow_in hin, cRow_in hin, hz 2]
      exact ⟨rfl, rfl⟩
  · rw [hr9, pk_us, rTot_all n hvo]; simp only [rAll, Nat.zero_add]
  · rw [hr10, pk_us, hgz]; simp only [rChs, cCnt, Nat.zero_add]
  · have h0 : ∀ v, v < 3 → 0 < d v → 0 < gz v := by
      intro v hv q
      obtain ⟨w, hw, x, y, hx, -⟩ := (hd v hv).2.2 0 q
      rw [hz v, rMany_pos]
      exact ⟨x, hx⟩
    have hle := row3_le (re := fun v => nI (d v)) e12 0
    have h12' : (k12 0 ce).toInt = 0 := by rw [e120, h12, Int32.toInt_zero]
    have hiff : (k12 3 ce).toInt ≤ 0 ↔ d 0 + d 1 + d 2 = 0 := by
      rw [hle, h12']
      constructor
      · rintro ⟨-, q⟩
        have q1 : ∀ v, v < 3 → d v = 0 := fun v hv => by
          rcases Nat.eq_zero_or_pos (d v) with w | w
          · exact w
          · have e1 := q v hv (h0 v hv w)
            have e2 := (hd v hv).1
            rw [nI_toInt (by omega)] at e1
            omega
        rw [q1 0 (by omega), q1 1 (by omega), q1 2 (by omega)]
      · intro q
        refine ⟨Int.le_refl _, fun v hv _ => ?_⟩
        have : d v = 0 := by
          rcases (show v = 0 ∨ v = 1 ∨ v = 2 by omega) with rfl | rfl | rfl <;> omega
        rw [this, nI_0, Int32.toInt_zero]
        exact Int.le_refl _
    rw [Int32.lt_iff_toInt_lt, Int32.toInt_zero]
    omega
  · rw [hr2, cStm_out (gout 2 x hx), cStm_out (gout 1 x hx), cStm_out (gout 0 x hx)]
  · rw [hr3, cTurn_out (mout 2 x hx), cTurn_out (mout 1 x hx), cTurn_out (mout 0 x hx)]
  · rw [e4 2 (by omega), cRow_out (mout 2 x hx), e4 1 (by omega), cRow_out (mout 1 x hx), e4 0 (by omega), cRow_out (mout 0 x hx), e40]
  · rw [e5 2 (by omega), cRow_out (mout 2 x hx), e5 1 (by omega), cRow_out (mout 1 x hx), e5 0 (by omega), cRow_out (mout 0 x hx), e50]
  · rw [hZ9]; exact cSgn_out (fun i hi e => hx (by rw [← e]; exact sg2 i hi))
  · rw [row3_out (re := fun v _ y => mxI y (cI (uu v ∧ ¬ go v) (mxI (gh v + 7) 4) (gh v))) e7 hx, e70]
  · rw [row3_out (re := fun v _ y => mnI y (cI (¬ uu v ∧ ¬ go v) (mnI (gl v - 7) 4) (gl v))) e8 hx, e80]
  · rw [hr9, pk_un hx]
  · rw [hr10, pk_un hx]
  · rw [pk_un hx]
  · rw [row3_out (re := fun v _ y => mxI y (nI (d v))) e12 hx, e120]
