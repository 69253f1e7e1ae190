/-! THE CLASS'S STATE AS ONE VALUE: u, n, m, lowest lines, rows, stale, layout -/
abbrev cS : Type := (Nat → Int32) × Nat × Nat × (Nat → Int32) × (Nat → Nat → Int32) × Prop × lS
abbrev xL (x : cS) : lS := x.2.2.2.2.2.2
noncomputable abbrev cX (c : Nat → Nat) (cA cC : ClassId) (x : cS) : va_W := shW c x.1 ++ svW c cA x.2.2.1 x.2.2.2.1 x.2.2.2.2.1 ++ noW c cA x.2.1 x.2.2.2.2.1 ++ lyX c cA cC x.2.2.2.2.2.1 (xL x)
/-- behind a question: the same, the layout perhaps anew -/
def cQ (u : Nat → Int32) (n m : Nat) (lo : Nat → Int32) (a : Nat → Nat → Int32) (x : cS) : Prop := ∃ (sl' : Prop) (X' : lS), x = (u, n, m, lo, a, sl', X') ∧ JK X' ∧ (¬ sl' → LK a n m X')
theorem ok_tick {f t : Int32} (h1 : okI f 0 99) (h2 : okI t f 99) : okI t 0 99 := by
  refine ⟨fun q => ?_, h2.2⟩
  obtain ⟨h3, h4⟩ := h1
  obtain ⟨h5, h6⟩ := h2
  rw [Int32.lt_iff_toInt_lt] at q h3 h5
  omega
theorem ok04 {x : Int32} (h : okI x 0 4) : x = 0 ∨ x = 1 ∨ x = 2 ∨ x = 3 ∨ x = 4 := by
  have h1 := okI_nat (N := 4) (by decide) h
  rcases (show x.toNatClampNeg = 0 ∨ x.toNatClampNeg = 1 ∨ x.toNatClampNeg = 2 ∨ x.toNatClampNeg = 3 ∨ x.toNatClampNeg = 4 by omega) with q | q | q | q | q
  · left; rw [h1.1, q]; rfl
  · right; left; rw [h1.1, q]; rfl
  · right; right; left; rw [h1.1, q]; rfl
  · right; right; right; left; rw [h1.1, q]; rfl
  · right; right; right; right; rw [h1.1, q]; rfl
