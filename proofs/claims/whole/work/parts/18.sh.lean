/-! THE LAYOUT'S STATE AS ONE VALUE: rows 1 .. 12, C, z, Q (0 lowest, 1 highest), P (0 only whole, 1 up), mv, M, zs, B (0 bearers, 1 taken) -/
abbrev lS : Type := (Nat → Nat → Int32) × (Nat → Nat) × (Nat → Nat) × (Nat → Nat → Int32) × (Nat → Nat → Prop) × (Nat → Nat) × (Nat → Nat → Nat) × Nat × (Nat → Nat → Nat)
noncomputable def lyX (c : Nat → Nat) (cA cC : ClassId) (sl : Prop) (X : lS) : va_W :=
  lyW c cA cC sl (X.1 1) (X.1 2) (X.1 3) (X.1 4) (X.1 5) X.2.1 (X.1 7) (X.1 8) (X.1 9) (X.1 10) (X.1 11) (X.1 12) ++ kW (c 28) (c 31) cA (X.2.2.1 0) (X.2.2.2.1 0 0) (X.2.2.2.1 1 0) (X.2.2.2.2.1 0 0) (X.2.2.2.2.1 1 0) (X.2.2.2.2.2.1 0) (X.2.2.2.2.2.2.1 0) ++ kW (c 29) (c 32) cA (X.2.2.1 1) (X.2.2.2.1 0 1) (X.2.2.2.1 1 1) (X.2.2.2.2.1 0 1) (X.2.2.2.2.1 1 1) (X.2.2.2.2.2.1 1) (X.2.2.2.2.2.2.1 1) ++ kW (c 30) (c 33) cA (X.2.2.1 2) (X.2.2.2.1 0 2) (X.2.2.2.1 1 2) (X.2.2.2.2.1 0 2) (X.2.2.2.2.1 1 2) (X.2.2.2.2.2.1 2) (X.2.2.2.2.2.2.1 2) ++ gW (c 34) (c 35) (c 36) cA X.2.2.2.2.2.2.2.1 (X.2.2.2.2.2.2.2.2 0) (X.2.2.2.2.2.2.2.2 1)
/-- the class's own object: u 1 unit, 2 pad, 3 least, 4 hiding -/
def shW (c : Nat → Nat) (u : Nat → Int32) : va_W := [(c 0, .inr (5, [.int (u 1), .ref (c 1), .ref (c 7), .ref (c 14), .int (u 2), .int (u 3), .int (u 4)]))]
abbrev tyL (cA cC : ClassId) : List (ClassId × FieldType) := [(cA, .int), (cC, .object "StaffHeads$Chord")]
/-- the gap as the class reckons it: over the first t ticks -/
def cGap (l7 l8 : Nat → Int32) (pad least : Int32) (up lo : Nat) : Nat → Int32
  | 0 => least
  | t + 1 => mxI (cGap l7 l8 pad least up lo t) (-(l8 (up * 100 + t)) + (l7 (lo * 100 + t) - 8) + pad)
/-- steps down to the staff j -/
def cDown (st : Nat → Int32) (h : Int32) (n : Nat) (l7 l8 : Nat → Int32) (pad least : Int32) : Nat → Int32
  | 0 => 0
  | j + 1 => if rHidA st h (nI (j + 1)) n then cDown st h n l7 l8 pad least j else cDown st h n l7 l8 pad least j + (cGap l7 l8 pad least (rUpr st h n j) (j + 1) 100 + 8)
theorem cell_nI (s t : Nat) : nI s * 100 + nI t = nI (s * 100 + t) := by
  rw [show (100 : Int32) = nI 100 from rfl, pk_mul, nI_add]
theorem nI_pos_ne {j : Nat} (h : j < 2 ^ 31) : ¬ nI j = 0 ↔ 0 < nI j := by
  rw [nI_pos0 h]
  constructor
  · intro q; exact Nat.pos_of_ne_zero (fun e => q (by rw [e]; rfl))
  · intro q e; exact nI_ne0 q h e
def cTks (l9 : Nat → Int32) (j : Nat) : Nat → Nat
  | 0 => 0
  | t + 1 => cTks l9 j t + (if 0 < l9 (j * 100 + t) then 1 else 0)
def cCrd (l12 : Nat → Int32) (j : Nat) : Nat → Nat
  | 0 => 0
  | t + 1 => cCrd l12 j t + (if 0 < l12 (j * 100 + t) then 1 else 0)
