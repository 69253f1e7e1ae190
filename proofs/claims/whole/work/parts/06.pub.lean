/-! WHAT THE CALLS DO, said once for class and reference: an answer, and the old or a new state of any kind -/
abbrev okI (v f t : Int32) : Prop := ¬ v < f ∧ ¬ t < v
def mutClef {S : Type} (s k l : Int32) (old new : S) : Int32 × S := if okI s 0 3 then (if okI k 0 2 ∧ okI l 1 5 then (1, new) else (-1002, old)) else (-1001, old)
def mutShift {S : Type} (m : Nat) (s f t o : Int32) (old new : S) : Int32 × S := if okI s 0 3 then (if okI f 0 99 ∧ okI t f 99 ∧ okI o (-2) 2 then (if m = 12 then (-1003, old) else (nI (m + 1), new)) else (-1002, old)) else (-1001, old)
def mutNote {S : Type} (n : Nat) (p1 p2 p3 p4 p5 p6 p7 : Int32) (old new : S) : Int32 × S := if okI p1 0 3 then (if okI p2 0 2 ∧ okI p3 0 99 ∧ okI p4 0 6 ∧ okI p5 0 9 ∧ okI p6 (-2) 3 ∧ okI p7 0 2 then (if n = 60 then (-1003, old) else (nI n, new)) else (-1002, old)) else (-1001, old)
def mutDrop {S : Type} (n : Nat) (k : Int32) (old new : S) : Int32 × S := if okI k 0 (nI n - 1) then (nI (n - 1), new) else (-1001, old)
def mutSet {S : Type} (w v pad least : Int32) (old nP nL : S) : Int32 × S := if okI w 0 1 ∧ okI v 0 100 then (if w = 0 then (pad, nP) else (least, nL)) else (-1002, old)
def ofAns (w sp up as col sg mv mn : Int32) : Int32 := if w = 0 then sp else if w = 1 then (if sp < 0 then -sp / 2 else 0) else if w = 2 then (if 8 < sp then (sp - 8) / 2 else 0) else if w = 3 then up else if w = 4 then as else if w = 5 then col else if w = 6 then sg else if w = 7 then mv else if w = 8 then mn else -1002
def atAns (w hi lo all ch most : Int32) : Int32 := if w = 0 then hi else if w = 1 then lo else if w = 2 then all else if w = 3 then ch else most
abbrev mS : Type := (Nat → Int32) × Nat × Nat × (Nat → Nat → Int32)
abbrev mX (b : Nat → Nat) (cA : ClassId) (x : mS) : va_W := mW b cA x.1 x.2.1 x.2.2.1 x.2.2.2
/-- behind a question: the same, but for what the reference keeps for itself -/
def mQ (u : Nat → Int32) (n m : Nat) (a : Nat → Nat → Int32) (th : Int32) (x : mS) : Prop := ∃ a' : Nat → Nat → Int32, x = (va_up u 0 th, n, m, a') ∧ ∀ i, i ≤ 12 → a' i = a i
theorem x_sub1 {n : Nat} (h : 0 < n) : nI n - 1 = nI (n - 1) := by
  obtain ⟨k, rfl⟩ : ∃ k, n = k + 1 := ⟨n - 1, by omega⟩
  exact nI_pred k
theorem okI_nat {x M : Int32} {N : Nat} (hM : M.toInt = N) (h : okI x 0 M) : x = nI (x.toNatClampNeg) ∧ x.toNatClampNeg ≤ N := by
  obtain ⟨j, hj, rfl⟩ := nI_of2 hM h.1 (Int32.not_lt.mp h.2)
  have h2 : N < 2 ^ 31 := by have := M.toInt_lt; omega
  rw [nI_clamp (by omega)]
  exact ⟨rfl, hj⟩
theorem ok_note {x : Int32} {n : Nat} (hn : n ≤ 60) (h : okI x 0 (nI n - 1)) : x = nI (x.toNatClampNeg) ∧ x.toNatClampNeg < n := by
  cases n with
  | zero =>
    exact absurd h (by
      intro q
      have q1 : ¬ x.toInt < (0 : Int32).toInt := fun z => q.1 (Int32.lt_iff_toInt_lt.mpr z)
      have q2 : ¬ (nI 0 - 1 : Int32).toInt < x.toInt := fun z => q.2 (Int32.lt_iff_toInt_lt.mpr z)
      rw [show (nI 0 - 1 : Int32).toInt = -1 by decide] at q2
      rw [Int32.toInt_zero] at q1
      omega)
  | succ k =>
    rw [nI_pred] at h
    have := okI_nat (N := k) (nI_toInt (by omega)) h
    exact ⟨this.1, by omega⟩
theorem note_ok {x : Int32} {n j : Nat} (hn : n ≤ 60) (hj : j < n) (h : x = nI j) : okI x 0 (nI n - 1) := by
  rw [x_sub1 (by omega), h]
  exact ⟨nI_pos (by omega), nI_nlt (by omega) (by omega)⟩
theorem ok01 {x : Int32} (h : okI x 0 1) : x = 0 ∨ x = 1 := by
  have h1 := okI_nat (N := 1) (by decide) h
  rcases (show x.toNatClampNeg = 0 ∨ x.toNatClampNeg = 1 by omega) with q | q
  · left; rw [h1.1, q]; rfl
  · right; rw [h1.1, q]; rfl
theorem sw_out {x : Int32} {N : Nat} (h : ∀ j, j ≤ N → ¬ x = nI j) (hN : N < 2 ^ 31) : x.toInt < 0 ∨ (N : Int) < x.toInt := by
  by_cases q : x.toInt < 0
  · exact Or.inl q
  · by_cases q2 : (N : Int) < x.toInt
    · exact Or.inr q2
    · obtain ⟨j, hj⟩ : ∃ j : Nat, x.toInt = j := ⟨x.toInt.toNat, by omega⟩
      exact absurd (Int32.toInt_inj.mp (by rw [hj, nI_toInt (by omega)])) (h j (by omega))
theorem rMvB_3 {mv : Nat → Int32} {d : Nat → Nat} {v : Nat} (h : v < 3) : rMvB mv d 3 v = nI (d v) := by
  rcases (show v = 0 ∨ v = 1 ∨ v = 2 by omega) with rfl | rfl | rfl
  · simp [rMvB, upd]
  · simp [rMvB, upd]
  · simp [rMvB, upd]
/-- a row without its j-th, i steps of the loop done -/
def rDr (f : Nat → Int32) (j : Nat) : Nat → (Nat → Int32)
  | 0 => f
  | i + 1 => upd (rDr f j i) (j + i) (rDr f j i (j + i + 1))
def rDrA (a : Nat → Nat → Int32) (j i : Nat) : Nat → Nat → Int32 := va_up (va_up (va_up (va_up (va_up (va_up a 7 (rDr (a 7) j i)) 8 (rDr (a 8) j i)) 9 (rDr (a 9) j i)) 10 (rDr (a 10) j i)) 11 (rDr (a 11) j i)) 12 (rDr (a 12) j i)
def rNoteA (a : Nat → Nat → Int32) (n : Nat) (p1 p2 p3 p4 p5 p6 p7 : Int32) : Nat → Nat → Int32 := va_up (va_up (va_up (va_up (va_up (va_up a 7 (upd (a 7) n p1)) 8 (upd (a 8) n p2)) 9 (upd (a 9) n p3)) 10 (upd (a 10) n (7 * p5 + p4))) 11 (upd (a 11) n p6)) 12 (upd (a 12) n p7)
def rShiftA (a : Nat → Nat → Int32) (m : Nat) (p1 p2 p3 p4 : Int32) : Nat → Nat → Int32 := va_up (va_up (va_up (va_up a 3 (upd (a 3) m p1)) 4 (upd (a 4) m p2)) 5 (upd (a 5) m p3)) 6 (upd (a 6) m p4)
def rClefA (a : Nat → Nat → Int32) (j : Nat) (p2 p3 : Int32) : Nat → Nat → Int32 := va_up (va_up a 1 (upd (a 1) j p2)) 2 (upd (a 2) j p3)
/-- the row of steps that the reference reckons -/
abbrev SR (a : Nat → Nat → Int32) (m n : Nat) : Nat → Int32 := rRk (a 1) (a 2) (a 3) (a 4) (a 5) (a 6) m (a 7) (a 9) (a 10) (a 13) n
def rAll (st vo ti : Nat → Int32) (n : Nat) (s t : Int32) : Nat → Nat
  | 0 => 0
  | v + 1 => rAll st vo ti n s t v + rMany st vo ti s t (nI v) n
def rChs (st vo ti : Nat → Int32) (n : Nat) (s t : Int32) : Nat → Nat
  | 0 => 0
  | v + 1 => rChs st vo ti n s t v + (if 0 < rMany st vo ti s t (nI v) n then 1 else 0)
def rMost (sc : Nat → Int32) : Nat → Int32
  | 0 => 0
  | k + 1 => mxI (rMost sc k) (sc k)
def rShown (st : Nat → Int32) (h : Int32) (n : Nat) : Nat → Nat
  | 0 => 0
  | s + 1 => rShown st h n s + (if rHidA st h (nI s) n then 0 else 1)
/-- ticks with notes, of the first t ones; of these, those where a chord is moved by d t -/
def rTks (st vo ti : Nat → Int32) (n : Nat) (s : Int32) : Nat → Nat
  | 0 => 0
  | t + 1 => rTks st vo ti n s t + (if 0 < rMany st vo ti s (nI t) 0 n + rMany st vo ti s (nI t) 1 n + rMany st vo ti s (nI t) 2 n then 1 else 0)
def rCrd (st vo ti : Nat → Int32) (n : Nat) (s : Int32) (d : Nat → Nat → Nat) : Nat → Nat
  | 0 => 0
  | t + 1 => rCrd st vo ti n s d t + (if 0 < rMany st vo ti s (nI t) 0 n + rMany st vo ti s (nI t) 1 n + rMany st vo ti s (nI t) 2 n ∧ 0 < d t 0 + d t 1 + d t 2 then 1 else 0)
theorem nI_pos0 {M : Nat} (h : M < 2 ^ 31) : 0 < nI M ↔ 0 < M := by
  rw [← nI_0]
  exact nI_ltI (by decide) h
theorem rAll_le (st vo ti : Nat → Int32) (n : Nat) (s t : Int32) (v : Nat) : rAll st vo ti n s t v ≤ v * n := by
  induction v with
  | zero => simp [rAll]
  | succ v ih =>
    have := rMany_le st vo ti s t (nI v) n
    unfold rAll
    rw [Nat.succ_mul]
    omega
theorem rTks_le (st vo ti : Nat → Int32) (n : Nat) (s : Int32) (t : Nat) : rTks st vo ti n s t ≤ t := by
  induction t with
  | zero => exact Nat.le_refl 0
  | succ t ih => unfold rTks; split <;> omega
