/-! THE LAW, mathematics: what holds between calls, and that answers agree -/
def trA (a : Nat → Nat → Int32) : Nat → Nat → Int32 := fun i => if i ≤ 12 then a i else fun _ => 0
theorem trA_eq {a a' : Nat → Nat → Int32} (h : ∀ i, i ≤ 12 → a' i = a i) : trA a' = trA a := by
  funext i
  unfold trA
  by_cases c : i ≤ 12
  · rw [if_pos c, if_pos c, h i c]
  · rw [if_neg c, if_neg c]
theorem WF_c {n m : Nat} {a a' : Nat → Nat → Int32} (h : ∀ i, i ≤ 12 → a' i = a i) (q : WF n m a) : WF n m a' := by
  have q1 : WF n m (trA a) := q
  rw [← trA_eq h] at q1
  exact q1
theorem LoOK_c {lo : Nat → Int32} {a a' : Nat → Nat → Int32} (h : ∀ i, i ≤ 12 → a' i = a i) (q : LoOK lo a) : LoOK lo a' := by
  have q1 : LoOK lo (trA a) := q
  rw [← trA_eq h] at q1
  exact q1
theorem LK_c {n m : Nat} {X : lS} {a a' : Nat → Nat → Int32} (h : ∀ i, i ≤ 12 → a' i = a i) (q : LK a n m X) : LK a' n m X := by
  have q1 : LK (trA a) n m X := q
  rw [← trA_eq h] at q1
  exact q1
/-- what holds between calls -/
def LI (u : Nat → Int32) (n m : Nat) (a : Nat → Nat → Int32) (lo : Nat → Int32) (sl : Prop) (X : lS) : Prop := WF n m a ∧ LoOK lo a ∧ JK X ∧ (¬ sl → LK a n m X) ∧ (0 ≤ (u 2).toInt ∧ (u 2).toInt ≤ 100) ∧ (0 ≤ (u 3).toInt ∧ (u 3).toInt ≤ 100)
theorem LI_q {u : Nat → Int32} {n m : Nat} {a a' : Nat → Nat → Int32} {lo : Nat → Int32} {sl sl' : Prop} {X X' : lS} (th : Int32) (h : LI u n m a lo sl X) (ha : ∀ i, i ≤ 12 → a' i = a i) (hJ : JK X') (hK : ¬ sl' → LK a n m X') : LI (va_up u 0 th) n m a' lo sl' X' :=
  ⟨WF_c ha h.1, LoOK_c ha h.2.1, hJ, fun q => LK_c ha (hK q), h.2.2.2.2.1, h.2.2.2.2.2⟩
/-- the class's cells in the reference's words -/
theorem cX_c {c : Nat → Nat} {cA cC : ClassId} {u u' : Nat → Int32} {n m : Nat} {lo : Nat → Int32} {a a' : Nat → Nat → Int32} {sl : Prop} {X : lS} (hu : ∀ i, 1 ≤ i → i ≤ 4 → u' i = u i) (h : ∀ i, 3 ≤ i → i ≤ 12 → a' i = a i) : cX c cA cC (u, n, m, lo, a, sl, X) = cX c cA cC (u', n, m, lo, a', sl, X) := by
  show shW c u ++ svW c cA m lo a ++ noW c cA n a ++ lyX c cA cC sl X = shW c u' ++ svW c cA m lo a' ++ noW c cA n a' ++ lyX c cA cC sl X
  unfold shW svW noW
  rw [h 3 (by decide) (by decide), h 4 (by decide) (by decide), h 5 (by decide) (by decide), h 6 (by decide) (by decide), h 7 (by decide) (by decide), h 8 (by decide) (by decide), h 9 (by decide) (by decide), h 10 (by decide) (by decide), h 11 (by decide) (by decide), h 12 (by decide) (by decide), hu 1 (by decide) (by decide), hu 2 (by decide) (by decide), hu 3 (by decide) (by decide), hu 4 (by decide) (by decide)]
theorem hs4_of {n m : Nat} {a : Nat → Nat → Int32} (hW : WF n m a) : ∀ k, k < n → a 7 k = nI ((a 7 k).toNatClampNeg) ∧ (a 7 k).toNatClampNeg < 4 := fun k hk => by
  obtain ⟨j, hj, e⟩ := hW.2.2.1 k hk
  exact staff_nat hj e
/-! answers agree -/
theorem ag_of {n m : Nat} {a : Nat → Nat → Int32} (hW : WF n m a) {X : lS} (p1 p2 : Int32) (hX : okI p1 0 (nI n - 1) → LK a n m X) : ∃ (kk vv : Nat) (as : Nat → Int32) (d g : Nat → Nat) (r : Nat → Int32), (okI p1 0 (nI n - 1) → p1 = nI kk ∧ kk < n) ∧ (okI p1 0 (nI n - 1) → a 8 kk = nI vv ∧ vv < 3) ∧ rAsides (a 7) (a 8) (a 9) (SR a m n) n (a 7 kk) (a 9 kk) as ∧ rMoves (a 7) (a 8) (a 9) (SR a m n) (a 12) (a 11) n (a 7 kk) (a 9 kk) (a 15) as d ∧ rSigns (a 7) (a 9) (SR a m n) (a 11) (rZero (a 16) n) n (a 7 kk) (a 9 kk) g r ∧
    (if okI p1 0 (nI n - 1) then ofAns p2 (X.1 1 p1.toNatClampNeg) (X.1 2 p1.toNatClampNeg) (X.1 3 p1.toNatClampNeg) (X.1 4 p1.toNatClampNeg + X.1 3 p1.toNatClampNeg) (nI (X.2.1 p1.toNatClampNeg)) (X.1 4 p1.toNatClampNeg) (X.1 5 p1.toNatClampNeg) else -1001) = (if okI p1 0 (nI n - 1) then ofAns p2 (SR a m n kk) (bv (rUp (a 7) (a 8) (a 9) (SR a m n) n (a 7 kk) (a 9 kk) (a 8 kk))) (as kk) ((rCol (a 7) (a 8) (a 9) (a 7 kk) (a 9 kk) n (a 15) as d 3) kk) ((rSgn (rZero (a 16) n) g r (rLeft (a 7) (a 9) (a 11) (a 7 kk) (a 9 kk) n)) kk) (nI (d vv)) (nI (rMany (a 7) (a 8) (a 9) (a 7 kk) (a 9 kk) (a 8 kk) n)) else -1001) := by
  by_cases c : okI p1 0 (nI n - 1)
  · have hj := ok_note hW.1 c
    obtain ⟨as, d, g, r, vv, h1, h2, h3, h4, h5⟩ := of_eq hW (hX c) hj.2
    refine ⟨p1.toNatClampNeg, vv, as, d, g, fun i => nI (r i), fun _ => hj, fun _ => h1, h2, h3, h4, ?_⟩
    rw [if_pos c, if_pos c]
    exact h5 p2
  · obtain ⟨X0, -, hX0⟩ := LK_ex hW
    obtain ⟨as, d, g, r, h2, h3, h4⟩ := place_ex hW hX0 (a 7 0) (a 9 0)
    refine ⟨0, 0, as, d, g, fun i => nI (r i), fun q => absurd q c, fun q => absurd q c, h2, h3 (a 15), h4 _ (fun k hk => rZero_v hk), ?_⟩
    rw [if_neg c, if_neg c]
theorem ag_at {n m : Nat} {a : Nat → Nat → Int32} (hW : WF n m a) {X : lS} (p1 p2 p3 : Int32) (hX : okI p1 0 3 ∧ okI p2 0 99 → LK a n m X) : ∃ (g : Nat → Nat) (r : Nat → Int32), rSigns (a 7) (a 9) (SR a m n) (a 11) (rZero (a 16) n) n p1 p2 g r ∧
    (if okI p1 0 3 then (if okI p2 0 99 ∧ okI p3 0 4 then atAns p3 (X.1 7 (p1.toNatClampNeg * 100 + p2.toNatClampNeg)) (X.1 8 (p1.toNatClampNeg * 100 + p2.toNatClampNeg)) (X.1 9 (p1.toNatClampNeg * 100 + p2.toNatClampNeg)) (X.1 10 (p1.toNatClampNeg * 100 + p2.toNatClampNeg)) (X.1 11 (p1.toNatClampNeg * 100 + p2.toNatClampNeg)) else -1002) else -1001) = (if okI p1 0 3 then (if okI p2 0 99 ∧ okI p3 0 4 then atAns p3 (rHigh (a 7) (a 8) (a 9) (SR a m n) (a 12) n p1 p2 n) (rLow (a 7) (a 8) (a 9) (SR a m n) (a 12) n p1 p2 n) (nI (rAll (a 7) (a 8) (a 9) n p1 p2 3)) (nI (rChs (a 7) (a 8) (a 9) n p1 p2 3)) (rMost (rSgn (rZero (a 16) n) g r (rLeft (a 7) (a 9) (a 11) p1 p2 n)) n) else -1002) else -1001) := by
  by_cases c : okI p1 0 3 ∧ okI p2 0 99
  · have h1 := okI_nat (N := 3) (by decide) c.1
    have h2 := okI_nat (N := 99) (by decide) c.2
    obtain ⟨g, r, w1, w2⟩ := at_eq (hX c) (show p1.toNatClampNeg < 4 by omega) (show p2.toNatClampNeg < 100 by omega)
    rw [← h1.1, ← h2.1] at w1 w2
    refine ⟨g, fun i => nI (r i), w1, ?_⟩
    rw [w2 p3]
  · obtain ⟨X0, -, hX0⟩ := LK_ex hW
    obtain ⟨as, d, g, r, h2, h3, h4⟩ := place_ex hW hX0 p1 p2
    refine ⟨g, fun i => nI (r i), h4 _ (fun k hk => rZero_v hk), ?_⟩
    by_cases c1 : okI p1 0 3
    · rw [if_pos c1, if_pos c1, if_neg (fun q => c ⟨c1, q.1⟩), if_neg (fun q => c ⟨c1, q.1⟩)]
    · rw [if_neg c1, if_neg c1]
theorem ag_sh {n m : Nat} {a : Nat → Nat → Int32} (hW : WF n m a) {X : lS} (p1 p2 : Int32) (hX : okI p1 0 (nI n - 1) ∧ okI p2 0 (nI n - 1) → LK a n m X) : (if okI p1 0 (nI n - 1) ∧ okI p2 0 (nI n - 1) then bv (rAt (a 7) (a 9) p2.toNatClampNeg (a 7 p1.toNatClampNeg) (a 9 p1.toNatClampNeg) ∧ cSh (X.1 1) (X.1 2) (a 12) (a 11) p1.toNatClampNeg p2.toNatClampNeg) else -1001) = (if okI p1 0 (nI n - 1) ∧ okI p2 0 (nI n - 1) then bv (rSh (a 7) (a 8) (a 9) (SR a m n) (a 12) (a 11) n p1.toNatClampNeg p2.toNatClampNeg) else -1001) := by
  by_cases c : okI p1 0 (nI n - 1) ∧ okI p2 0 (nI n - 1)
  · rw [if_pos c, if_pos c]
    exact shared_eq hW (hX c) (ok_note hW.1 c.1).2 (ok_note hW.1 c.2).2
  · rw [if_neg c, if_neg c]
theorem ag_he {n m : Nat} {a : Nat → Nat → Int32} (hW : WF n m a) {X : lS} {u : Nat → Int32} (hp : 0 ≤ (u 2).toInt ∧ (u 2).toInt ≤ 100) (hl : 0 ≤ (u 3).toInt ∧ (u 3).toInt ≤ 100) (p1 : Int32) (hX : okI p1 0 (nI n - 1) → LK a n m X) : (if okI p1 0 (nI n - 1) then (u 1).toInt64 * (X.1 1 p1.toNatClampNeg - cDown (a 7) (u 4) n (X.1 7) (X.1 8) (u 2) (u 3) ((a 7 p1.toNatClampNeg).toNatClampNeg)).toInt64 else -1001) = (if okI p1 0 (nI n - 1) then (u 1).toInt64 * (SR a m n p1.toNatClampNeg).toInt64 - (u 1).toInt64 * rPl (a 7) (a 8) (a 9) (SR a m n) (a 12) n (u 2) (u 3) (u 4) ((a 7 p1.toNatClampNeg).toNatClampNeg) else -1001) := by
  by_cases c : okI p1 0 (nI n - 1)
  · rw [if_pos c, if_pos c]
    have hj := ok_note hW.1 c
    exact height_eq hW (hX c) hp hl (hs4_of hW _ hj.2).2 hj.2 _
  · rw [if_neg c, if_neg c]
theorem ag_ga {n m : Nat} {a : Nat → Nat → Int32} (hW : WF n m a) {X : lS} {u : Nat → Int32} (hp : 0 ≤ (u 2).toInt ∧ (u 2).toInt ≤ 100) (p1 : Int32) (hX : okI p1 0 3 ∧ ¬ (p1 = 0 ∨ rHidA (a 7) (u 4) p1 n) → LK a n m X) : (if okI p1 0 3 then (if p1 = 0 ∨ rHidA (a 7) (u 4) p1 n then -1000 else cGap (X.1 7) (X.1 8) (u 2) (u 3) (rUpr (a 7) (u 4) n (p1.toNatClampNeg - 1)) p1.toNatClampNeg 100) else -1001) = (if okI p1 0 3 then (if p1 = 0 ∨ rHidA (a 7) (u 4) p1 n then -1000 else rGapA (a 7) (a 8) (a 9) (SR a m n) (a 12) n (u 2) (u 3) (u 4) (p1.toNatClampNeg - 1)) else -1001) := by
  by_cases c : okI p1 0 3
  · rw [if_pos c, if_pos c]
    by_cases c2 : p1 = 0 ∨ rHidA (a 7) (u 4) p1 n
    · rw [if_pos c2, if_pos c2]
    · rw [if_neg c2, if_neg c2]
      have hj := okI_nat (N := 3) (by decide) c
      have h0 : 0 < p1.toNatClampNeg := Nat.pos_of_ne_zero (fun q => c2 (Or.inl (by rw [hj.1, q]; rfl)))
      have hu := rUpr_le (a 7) (u 4) n (p1.toNatClampNeg - 1)
      unfold rGapA
      rw [Nat.sub_add_cancel h0]
      exact gap_eq hW (hX ⟨c, c2⟩) hp (by omega) (by omega)
  · rw [if_neg c, if_neg c]
theorem ag_pl {n m : Nat} {a : Nat → Nat → Int32} (hW : WF n m a) {X : lS} {u : Nat → Int32} (hp : 0 ≤ (u 2).toInt ∧ (u 2).toInt ≤ 100) (hl : 0 ≤ (u 3).toInt ∧ (u 3).toInt ≤ 100) (p1 : Int32) (hX : okI p1 0 3 ∧ ¬ rHidA (a 7) (u 4) p1 n → LK a n m X) : (if okI p1 0 3 then (if rHidA (a 7) (u 4) p1 n then -1000 else (u 1).toInt64 * (cDown (a 7) (u 4) n (X.1 7) (X.1 8) (u 2) (u 3) p1.toNatClampNeg).toInt64) else -1001) = (if okI p1 0 3 then (if rHidA (a 7) (u 4) p1 n then -1000 else (u 1).toInt64 * rPl (a 7) (a 8) (a 9) (SR a m n) (a 12) n (u 2) (u 3) (u 4) p1.toNatClampNeg) else -1001) := by
  by_cases c : okI p1 0 3
  · rw [if_pos c, if_pos c]
    by_cases c2 : rHidA (a 7) (u 4) p1 n
    · rw [if_pos c2, if_pos c2]
    · rw [if_neg c2, if_neg c2]
      have hj := okI_nat (N := 3) (by decide) c
      rw [(down_eq (h := u 4) hW (hX ⟨c, c2⟩) hp hl (show p1.toNatClampNeg < 4 by omega)).1]
  · rw [if_neg c, if_neg c]
theorem ag_cr {n m : Nat} {a : Nat → Nat → Int32} (hW : WF n m a) {x : cS} (p1 : Int32) (hX : okI p1 0 3 → LK a n m (xL x)) : ∃ (as : Nat → Nat → Int32) (d : Nat → Nat → Nat), (∀ t, t < 100 → rAsides (a 7) (a 8) (a 9) (SR a m n) n p1 (nI t) (as t) ∧ ∀ co, rMoves (a 7) (a 8) (a 9) (SR a m n) (a 12) (a 11) n p1 (nI t) co (as t) (d t)) ∧
    (okI p1 0 3 → crT x p1 = rTks (a 7) (a 8) (a 9) n p1 100 ∧ cCrd ((xL x).1 12) p1.toNatClampNeg 100 = rCrd (a 7) (a 8) (a 9) n p1 d 100) := by
  by_cases c : okI p1 0 3
  · have hj := okI_nat (N := 3) (by decide) c
    obtain ⟨as, d, w1, w2⟩ := crowd_eq hW (hX c) (show p1.toNatClampNeg < 4 by omega)
    have w2 := w2 100 (Nat.le_refl _)
    rw [← hj.1] at w1 w2
    exact ⟨as, d, w1, fun _ => w2⟩
  · obtain ⟨X0, -, hX0⟩ := LK_ex hW
    have hall : ∀ t : Nat, ∃ q : (Nat → Int32) × (Nat → Nat), rAsides (a 7) (a 8) (a 9) (SR a m n) n p1 (nI t) q.1 ∧ ∀ co, rMoves (a 7) (a 8) (a 9) (SR a m n) (a 12) (a 11) n p1 (nI t) co q.1 q.2 := fun t => by
      obtain ⟨as, d, g, r, h2, h3, h4⟩ := place_ex hW hX0 p1 (nI t)
      exact ⟨(as, d), h2, h3⟩
    obtain ⟨f, hf⟩ := Classical.axiomOfChoice hall
    exact ⟨fun t => (f t).1, fun t => (f t).2, fun t _ => hf t, fun q => absurd q c⟩
/-! what calls change -/
theorem mutClef_c {S T : Type} (p1 p2 p3 : Int32) (o n : S) (o' n' : T) : (mutClef p1 p2 p3 o n).1 = (mutClef p1 p2 p3 o' n').1 ∧ ((okI p1 0 3 ∧ okI p2 0 2 ∧ okI p3 1 5 ∧ (mutClef p1 p2 p3 o n).2 = n ∧ (mutClef p1 p2 p3 o' n').2 = n') ∨ ((mutClef p1 p2 p3 o n).2 = o ∧ (mutClef p1 p2 p3 o' n').2 = o')) := by
  unfold mutClef
  by_cases c1 : okI p1 0 3
  · rw [if_pos c1, if_pos c1]
    by_cases c2 : okI p2 0 2 ∧ okI p3 1 5
    · rw [if_pos c2, if_pos c2]; exact ⟨rfl, Or.inl ⟨c1, c2.1, c2.2, rfl, rfl⟩⟩
    · rw [if_neg c2, if_neg c2]; exact ⟨rfl, Or.inr ⟨rfl, rfl⟩⟩
  · rw [if_neg c1, if_neg c1]; exact ⟨rfl, Or.inr ⟨rfl, rfl⟩⟩
theorem mutShift_c {S T : Type} (m : Nat) (p1 p2 p3 p4 : Int32) (o n : S) (o' n' : T) : (mutShift m p1 p2 p3 p4 o n).1 = (mutShift m p1 p2 p3 p4 o' n').1 ∧ ((okI p4 (-2) 2 ∧ ¬ m = 12 ∧ (mutShift m p1 p2 p3 p4 o n).2 = n ∧ (mutShift m p1 p2 p3 p4 o' n').2 = n') ∨ ((mutShift m p1 p2 p3 p4 o n).2 = o ∧ (mutShift m p1 p2 p3 p4 o' n').2 = o')) := by
  unfold mutShift
  by_cases c1 : okI p1 0 3
  · rw [if_pos c1, if_pos c1]
    by_cases c2 : okI p2 0 99 ∧ okI p3 p2 99 ∧ okI p4 (-2) 2
    · rw [if_pos c2, if_pos c2]
      by_cases c3 : m = 12
      · rw [if_pos c3, if_pos c3]; exact ⟨rfl, Or.inr ⟨rfl, rfl⟩⟩
      · rw [if_neg c3, if_neg c3]; exact ⟨rfl, Or.inl ⟨c2.2.2, c3, rfl, rfl⟩⟩
    · rw [if_neg c2, if_neg c2]; exact ⟨rfl, Or.inr ⟨rfl, rfl⟩⟩
  · rw [if_neg c1, if_neg c1]; exact ⟨rfl, Or.inr ⟨rfl, rfl⟩⟩
theorem mutNote_c {S T : Type} (k : Nat) (p1 p2 p3 p4 p5 p6 p7 : Int32) (o n : S) (o' n' : T) : (mutNote k p1 p2 p3 p4 p5 p6 p7 o n).1 = (mutNote k p1 p2 p3 p4 p5 p6 p7 o' n').1 ∧ ((okI p1 0 3 ∧ (okI p2 0 2 ∧ okI p3 0 99 ∧ okI p4 0 6 ∧ okI p5 0 9 ∧ okI p6 (-2) 3 ∧ okI p7 0 2) ∧ ¬ k = 60 ∧ (mutNote k p1 p2 p3 p4 p5 p6 p7 o n).2 = n ∧ (mutNote k p1 p2 p3 p4 p5 p6 p7 o' n').2 = n') ∨ ((mutNote k p1 p2 p3 p4 p5 p6 p7 o n).2 = o ∧ (mutNote k p1 p2 p3 p4 p5 p6 p7 o' n').2 = o')) := by
  unfold mutNote
  by_cases c1 : okI p1 0 3
  · rw [if_pos c1, if_pos c1]
    by_cases c2 : okI p2 0 2 ∧ okI p3 0 99 ∧ okI p4 0 6 ∧ okI p5 0 9 ∧ okI p6 (-2) 3 ∧ okI p7 0 2
    · rw [if_pos c2, if_pos c2]
      by_cases c3 : k = 60
      · rw [if_pos c3, if_pos c3]; exact ⟨rfl, Or.inr ⟨rfl, rfl⟩⟩
      · rw [if_neg c3, if_neg c3]; exact ⟨rfl, Or.inl ⟨c1, c2, c3, rfl, rfl⟩⟩
    · rw [if_neg c2, if_neg c2]; exact ⟨rfl, Or.inr ⟨rfl, rfl⟩⟩
  · rw [if_neg c1, if_neg c1]; exact ⟨rfl, Or.inr ⟨rfl, rfl⟩⟩
theorem mutDrop_c {S T : Type} (k : Nat) (p1 : Int32) (o n : S) (o' n' : T) : (mutDrop k p1 o n).1 = (mutDrop k p1 o' n').1 ∧ ((okI p1 0 (nI k - 1) ∧ (mutDrop k p1 o n).2 = n ∧ (mutDrop k p1 o' n').2 = n') ∨ ((mutDrop k p1 o n).2 = o ∧ (mutDrop k p1 o' n').2 = o')) := by
  unfold mutDrop
  by_cases c1 : okI p1 0 (nI k - 1)
  · rw [if_pos c1, if_pos c1]; exact ⟨rfl, Or.inl ⟨c1, rfl, rfl⟩⟩
  · rw [if_neg c1, if_neg c1]; exact ⟨rfl, Or.inr ⟨rfl, rfl⟩⟩
theorem mutSet_c {S T : Type} (w v pad least : Int32) (o n1 n2 : S) (o' n1' n2' : T) : (mutSet w v pad least o n1 n2).1 = (mutSet w v pad least o' n1' n2').1 ∧ ((okI v 0 100 ∧ (mutSet w v pad least o n1 n2).2 = n1 ∧ (mutSet w v pad least o' n1' n2').2 = n1') ∨ (okI v 0 100 ∧ (mutSet w v pad least o n1 n2).2 = n2 ∧ (mutSet w v pad least o' n1' n2').2 = n2') ∨ ((mutSet w v pad least o n1 n2).2 = o ∧ (mutSet w v pad least o' n1' n2').2 = o')) := by
  unfold mutSet
  by_cases c1 : okI w 0 1 ∧ okI v 0 100
  · rw [if_pos c1, if_pos c1]
    by_cases c2 : w = 0
    · rw [if_pos c2, if_pos c2]; exact ⟨rfl, Or.inl ⟨c1.2, rfl, rfl⟩⟩
    · rw [if_neg c2, if_neg c2]; exact ⟨rfl, Or.inr (Or.inl ⟨c1.2, rfl, rfl⟩)⟩
  · rw [if_neg c1, if_neg c1]; exact ⟨rfl, Or.inr (Or.inr ⟨rfl, rfl⟩)⟩
theorem ok_int {x f t : Int32} (h : okI x f t) : f.toInt ≤ x.toInt ∧ x.toInt ≤ t.toInt := by
  obtain ⟨h1, h2⟩ := h
  rw [Int32.lt_iff_toInt_lt] at h1 h2
  omega
theorem ok_voice {x : Int32} (h : okI x 0 2) : x = nI 0 ∨ x = nI 1 ∨ x = nI 2 := by
  have h1 := okI_nat (N := 2) (by decide) h
  rcases (show x.toNatClampNeg = 0 ∨ x.toNatClampNeg = 1 ∨ x.toNatClampNeg = 2 by omega) with q | q | q
  · left; rw [h1.1, q]
  · right; left; rw [h1.1, q]
  · right; right; rw [h1.1, q]
theorem LI_clef {u : Nat → Int32} {n m : Nat} {a : Nat → Nat → Int32} {lo : Nat → Int32} {sl : Prop} {X : lS} {p1 p2 p3 : Int32} (h : LI u n m a lo sl X) (c1 : okI p1 0 3) (c2 : okI p3 1 5) : LI (va_up u 0 0) n m (rClefA a p1.toNatClampNeg p2 p3) (upd lo p1.toNatClampNeg (rClef p2 - 2 * (p3 - 1))) True X := by
  obtain ⟨⟨w1, w2, w3, w4, w5, w6, w7, w8⟩, h2, h3, -, h5⟩ := h
  refine ⟨⟨w1, w2, w3, w4, w5, w6, w7, fun j hj => ?_⟩, fun j hj => ?_, h3, fun q => absurd trivial q, h5⟩
  · show 1 ≤ (upd (a 2) p1.toNatClampNeg p3 j).toInt ∧ (upd (a 2) p1.toNatClampNeg p3 j).toInt ≤ 5
    by_cases e : j = p1.toNatClampNeg
    · rw [e, pk_us]; exact ok_int c2
    · rw [pk_un e]; exact w8 j hj
  · show upd lo p1.toNatClampNeg (rClef p2 - 2 * (p3 - 1)) j = rClef (upd (a 1) p1.toNatClampNeg p2 j) - 2 * (upd (a 2) p1.toNatClampNeg p3 j - 1)
    by_cases e : j = p1.toNatClampNeg
    · rw [e, pk_us, pk_us, pk_us]
    · rw [pk_un e, pk_un e, pk_un e]; exact h2 j hj
theorem LI_shift {u : Nat → Int32} {n m : Nat} {a : Nat → Nat → Int32} {lo : Nat → Int32} {sl : Prop} {X : lS} {p1 p2 p3 p4 : Int32} (h : LI u n m a lo sl X) (c1 : okI p4 (-2) 2) (c2 : ¬ m = 12) : LI (va_up u 0 0) n (m + 1) (rShiftA a m p1 p2 p3 p4) lo True X := by
  obtain ⟨⟨w1, w2, w3, w4, w5, w6, w7, w8⟩, h2, h3, -, h5⟩ := h
  refine ⟨⟨w1, by omega, w3, w4, w5, w6, fun k hk => ?_, w8⟩, h2, h3, fun q => absurd trivial q, h5⟩
  show -2 ≤ (upd (a 6) m p4 k).toInt ∧ (upd (a 6) m p4 k).toInt ≤ 2
  by_cases e : k = m
  · rw [e, pk_us]; exact ok_int c1
  · rw [pk_un e]; exact w7 k (by omega)
theorem LI_plain {u : Nat → Int32} {n m : Nat} {a : Nat → Nat → Int32} {lo : Nat → Int32} {sl : Prop} {X : lS} (h : LI u n m a lo sl X) : LI (va_up u 0 0) n 0 a lo True X := by
  obtain ⟨⟨w1, w2, w3, w4, w5, w6, w7, w8⟩, h2, h3, -, h5⟩ := h
  exact ⟨⟨w1, Nat.zero_le _, w3, w4, w5, w6, fun k hk => absurd hk (Nat.not_lt_zero k), w8⟩, h2, h3, fun q => absurd trivial q, h5⟩
theorem num_bd {x y : Int32} (h1 : okI x 0 6) (h2 : okI y 0 9) : 0 ≤ (7 * y + x).toInt ∧ (7 * y + x).toInt ≤ 69 := by
  have h3 := okI_nat (N := 6) (by decide) h1
  have h4 := okI_nat (N := 9) (by decide) h2
  rw [h3.1, h4.1, show (7 : Int32) = nI 7 from rfl, pk_mul, nI_add]
  have e := nI_toInt (n := 7 * y.toNatClampNeg + x.toNatClampNeg) (by omega)
  rw [e]
  omega
theorem LI_note {u : Nat → Int32} {n m : Nat} {a : Nat → Nat → Int32} {lo : Nat → Int32} {sl : Prop} {X : lS} {p1 p2 p3 p4 p5 p6 p7 : Int32} (h : LI u n m a lo sl X) (c1 : okI p1 0 3) (c2 : okI p2 0 2 ∧ okI p3 0 99 ∧ okI p4 0 6 ∧ okI p5 0 9 ∧ okI p6 (-2) 3 ∧ okI p7 0 2) (c3 : ¬ n = 60) : LI (va_up u 0 0) (n + 1) m (rNoteA a n p1 p2 p3 p4 p5 p6 p7) lo True X := by
  obtain ⟨⟨w1, w2, w3, w4, w5, w6, w7, w8⟩, h2, h3, -, h5⟩ := h
  refine ⟨⟨by omega, w2, fun k hk => ?_, fun k hk => ?_, fun k hk => ?_, fun k hk => ?_, w7, w8⟩, h2, h3, fun q => absurd trivial q, h5⟩
  · show ∃ j, j < 4 ∧ upd (a 7) n p1 k = nI j
    by_cases e : k = n
    · rw [e, pk_us]; have q := okI_nat (N := 3) (by decide) c1; exact ⟨_, by omega, q.1⟩
    · rw [pk_un e]; exact w3 k (by omega)
  · show upd (a 8) n p2 k = nI 0 ∨ upd (a 8) n p2 k = nI 1 ∨ upd (a 8) n p2 k = nI 2
    by_cases e : k = n
    · rw [e, pk_us]; exact ok_voice c2.1
    · rw [pk_un e]; exact w4 k (by omega)
  · show ∃ t, t < 100 ∧ upd (a 9) n p3 k = nI t
    by_cases e : k = n
    · rw [e, pk_us]; have q := okI_nat (N := 99) (by decide) c2.2.1; exact ⟨_, by omega, q.1⟩
    · rw [pk_un e]; exact w5 k (by omega)
  · show 0 ≤ (upd (a 10) n (7 * p5 + p4) k).toInt ∧ (upd (a 10) n (7 * p5 + p4) k).toInt ≤ 69
    by_cases e : k = n
    · rw [e, pk_us]; exact num_bd c2.2.2.1 c2.2.2.2.1
    · rw [pk_un e]; exact w6 k (by omega)
theorem rDr_v (f : Nat → Int32) (j i k : Nat) : rDr f j i k = if j ≤ k ∧ k < j + i then f (k + 1) else f k := by
  induction i generalizing k with
  | zero => rw [if_neg (by omega)]; rfl
  | succ i ih =>
    unfold rDr
    by_cases e : k = j + i
    · rw [e, pk_us, ih, if_neg (by omega), if_pos (by omega)]
    · rw [pk_un e, ih]
      by_cases c : j ≤ k ∧ k < j + i
      · rw [if_pos c, if_pos (by omega)]
      · rw [if_neg c, if_neg (by omega)]
theorem rDr_in {f : Nat → Int32} {j n k : Nat} (hj : j < n) (hk : k < n - 1) : ∃ q, q < n ∧ rDr f j (n - 1 - j) k = f q := by
  rw [rDr_v]
  by_cases c : j ≤ k ∧ k < j + (n - 1 - j)
  · rw [if_pos c]; exact ⟨k + 1, by omega, rfl⟩
  · rw [if_neg c]; exact ⟨k, by omega, rfl⟩
theorem LI_drop {u : Nat → Int32} {n m : Nat} {a : Nat → Nat → Int32} {lo : Nat → Int32} {sl : Prop} {X : lS} {p1 : Int32} (h : LI u n m a lo sl X) (c1 : okI p1 0 (nI n - 1)) : LI (va_up u 0 0) (n - 1) m (rDrA a p1.toNatClampNeg (n - 1 - p1.toNatClampNeg)) lo True X := by
  have hj := ok_note h.1.1 c1
  obtain ⟨⟨w1, w2, w3, w4, w5, w6, w7, w8⟩, h2, h3, -, h5⟩ := h
  refine ⟨⟨by omega, w2, fun k hk => ?_, fun k hk => ?_, fun k hk => ?_, fun k hk => ?_, w7, w8⟩, h2, h3, fun q => absurd trivial q, h5⟩
  · show ∃ j, j < 4 ∧ rDr (a 7) p1.toNatClampNeg (n - 1 - p1.toNatClampNeg) k = nI j
    obtain ⟨q, hq, e⟩ := rDr_in (f := a 7) hj.2 hk
    rw [e]; exact w3 q hq
  · show rDr (a 8) p1.toNatClampNeg (n - 1 - p1.toNatClampNeg) k = nI 0 ∨ rDr (a 8) p1.toNatClampNeg (n - 1 - p1.toNatClampNeg) k = nI 1 ∨ rDr (a 8) p1.toNatClampNeg (n - 1 - p1.toNatClampNeg) k = nI 2
    obtain ⟨q, hq, e⟩ := rDr_in (f := a 8) hj.2 hk
    rw [e]; exact w4 q hq
  · show ∃ t, t < 100 ∧ rDr (a 9) p1.toNatClampNeg (n - 1 - p1.toNatClampNeg) k = nI t
    obtain ⟨q, hq, e⟩ := rDr_in (f := a 9) hj.2 hk
    rw [e]; exact w5 q hq
  · show 0 ≤ (rDr (a 10) p1.toNatClampNeg (n - 1 - p1.toNatClampNeg) k).toInt ∧ (rDr (a 10) p1.toNatClampNeg (n - 1 - p1.toNatClampNeg) k).toInt ≤ 69
    obtain ⟨q, hq, e⟩ := rDr_in (f := a 10) hj.2 hk
    rw [e]; exact w6 q hq
theorem LI_u {u u' : Nat → Int32} {n m : Nat} {a : Nat → Nat → Int32} {lo : Nat → Int32} {sl : Prop} {X : lS} (h : LI u n m a lo sl X) (h2 : 0 ≤ (u' 2).toInt ∧ (u' 2).toInt ≤ 100) (h3 : 0 ≤ (u' 3).toInt ∧ (u' 3).toInt ≤ 100) : LI u' n m a lo sl X := ⟨h.1, h.2.1, h.2.2.1, h.2.2.2.1, h2, h3⟩
