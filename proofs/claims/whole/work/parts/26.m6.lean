/-! PURE MATHEMATICS 6: steps are small; places laid one by one; what is right when all are laid -/
abbrev spK (a : Nat → Nat → Int32) (m : Nat) : Nat → Int32 := rSpK (a 1) (a 2) (a 3) (a 4) (a 5) (a 6) m (a 7) (a 9) (a 10)
/-- what holds of every state that calls lead to -/
def WF (n m : Nat) (a : Nat → Nat → Int32) : Prop := n ≤ 60 ∧ m ≤ 12 ∧ (∀ k, k < n → ∃ j, j < 4 ∧ a 7 k = nI j) ∧ (∀ k, k < n → a 8 k = nI 0 ∨ a 8 k = nI 1 ∨ a 8 k = nI 2) ∧ (∀ k, k < n → ∃ t, t < 100 ∧ a 9 k = nI t) ∧ (∀ k, k < n → 0 ≤ (a 10 k).toInt ∧ (a 10 k).toInt ≤ 69) ∧ (∀ k, k < m → -2 ≤ (a 6 k).toInt ∧ (a 6 k).toInt ≤ 2) ∧ ∀ j, j < 4 → 1 ≤ (a 2 j).toInt ∧ (a 2 j).toInt ≤ 5
/-- the class keeps a clef as the number of the lowest line -/
def LoOK (lo : Nat → Int32) (a : Nat → Nat → Int32) : Prop := ∀ j, j < 4 → lo j = rClef (a 1 j) - 2 * (a 2 j - 1)
theorem rOct_bd {s3 s4 s5 s6 : Nat → Int32} {s t : Int32} {m : Nat} (h : ∀ k, k < m → -2 ≤ (s6 k).toInt ∧ (s6 k).toInt ≤ 2) (hm : m ≤ 12) : -2 * (m : Int) ≤ (rOct s3 s4 s5 s6 s t m).toInt ∧ (rOct s3 s4 s5 s6 s t m).toInt ≤ 2 * m := by
  induction m with
  | zero => rw [rOct, Int32.toInt_zero]; omega
  | succ m ih =>
    have ih := ih (fun k hk => h k (by omega)) (by omega)
    have hk := h m (Nat.lt_succ_self m)
    unfold rOct
    split
    · rw [add_bd (by omega) (by omega) (by omega) (by omega)]; omega
    · rw [Int32.add_zero]; omega
theorem mul_bd {x c : Int32} (h1 : -1000 ≤ x.toInt) (h2 : x.toInt ≤ 1000) (h3 : 0 ≤ c.toInt) (h4 : c.toInt ≤ 1000) : (c * x).toInt = c.toInt * x.toInt := by
  rw [Int32.toInt_mul]
  have a1 : c.toInt * x.toInt ≤ 1000 * 1000 := by
    by_cases h : 0 ≤ x.toInt
    · exact Int.mul_le_mul h4 h2 h (by omega)
    · have : c.toInt * x.toInt ≤ 0 := Int.mul_nonpos_of_nonneg_of_nonpos h3 (by omega)
      omega
  have a2 : -(1000 * 1000) ≤ c.toInt * x.toInt := by
    have : c.toInt * (-x.toInt) ≤ 1000 * 1000 := by
      by_cases h : 0 ≤ -x.toInt
      · exact Int.mul_le_mul h4 (by omega) h (by omega)
      · have : c.toInt * (-x.toInt) ≤ 0 := Int.mul_nonpos_of_nonneg_of_nonpos h3 (by omega)
        omega
    rw [Int.mul_neg] at this
    omega
  exact Int.bmod_eq_of_le (by omega) (by omega)
theorem rClef_bd (k : Int32) : 24 ≤ (rClef k).toInt ∧ (rClef k).toInt ≤ 32 := by
  unfold rClef
  split
  · decide
  · split <;> decide
theorem spK_bd {n m : Nat} {a : Nat → Nat → Int32} (h : WF n m a) (k : Nat) (hk : k < n) : spB (spK a m k) := by
  obtain ⟨-, hm, h7, -, -, h10, h6, h2⟩ := h
  obtain ⟨j, hj, e⟩ := h7 k hk
  show spB (rStep (a 1) (a 2) (a 3) (a 4) (a 5) (a 6) m ((a 7 k).toNatClampNeg) (a 9 k) (a 10 k))
  rw [e, nI_clamp (by omega)]
  unfold rStep
  have q1 := h10 k hk
  have q2 := rClef_bd (a 1 j)
  have q3 := h2 j hj
  have q4 := rOct_bd (s3 := a 3) (s4 := a 4) (s5 := a 5) (s := nI j) (t := a 9 k) h6 hm
  have e2 : (2 : Int32).toInt = 2 := by decide
  have e7 : (7 : Int32).toInt = 7 := by decide
  have m1 := mul_bd (x := a 2 j) (c := 2) (by omega) (by omega) (by decide) (by decide)
  have m2 := mul_bd (x := rOct (a 3) (a 4) (a 5) (a 6) (nI j) (a 9 k) m) (c := 7) (by omega) (by omega) (by decide) (by decide)
  rw [e2] at m1
  rw [e7] at m2
  have s1 := sub_bd (x := a 10 k) (c := rClef (a 1 j)) (by omega) (by omega) (by omega) (by omega)
  have s2 := add_bd (x := a 10 k - rClef (a 1 j)) (c := 2 * a 2 j) (by omega) (by omega) (by omega) (by omega)
  have s3 := sub_bd (x := a 10 k - rClef (a 1 j) + 2 * a 2 j) (c := 2) (by omega) (by omega) (by omega) (by omega)
  have s4 := sub_bd (x := a 10 k - rClef (a 1 j) + 2 * a 2 j - 2) (c := 7 * rOct (a 3) (a 4) (a 5) (a 6) (nI j) (a 9 k) m) (by omega) (by omega) (by omega) (by omega)
  unfold spB
  omega
theorem stp_ring (nu C L o : Int32) : nu - (C - 2 * (L - 1)) - 7 * o = nu - C + 2 * L - 2 - 7 * o := by grind
theorem stp_eq {lo : Nat → Int32} {a : Nat → Nat → Int32} (h : LoOK lo a) {m j k : Nat} (hj : j < 4) (e : a 7 k = nI j) : a 10 k - lo j - 7 * rOct (a 3) (a 4) (a 5) (a 6) (nI j) (a 9 k) m = spK a m k := by
  show _ = rStep (a 1) (a 2) (a 3) (a 4) (a 5) (a 6) m ((a 7 k).toNatClampNeg) (a 9 k) (a 10 k)
  rw [e, nI_clamp (by omega), h j hj]
  exact stp_ring _ _ _ _
/-- the layout is right -/
def LK (a : Nat → Nat → Int32) (n m : Nat) (X : lS) : Prop := (∀ k, k < n → X.1 1 k = spK a m k) ∧ ∀ s t, s < 4 → t < 100 → CellX a n (spK a m) (nI s) (nI t) (s * 100 + t) X
/-- places of the first i notes are laid, the others are as cleared -/
def I2 (a : Nat → Nat → Int32) (n : Nat) (spk : Nat → Int32) (i : Nat) (Y : lS) : Prop := JK Y ∧ (∀ k, k < n → Y.1 1 k = spk k) ∧ ∀ s t, s < 4 → t < 100 → ((∃ k, k < i ∧ rAt (a 7) (a 9) k (nI s) (nI t)) → CellX a n spk (nI s) (nI t) (s * 100 + t) Y) ∧ ((∀ k, k < i → ¬ rAt (a 7) (a 9) k (nI s) (nI t)) → (∀ x, x < n → rAt (a 7) (a 9) x (nI s) (nI t) → Y.2.1 x = 0) ∧ Y.1 7 (s * 100 + t) = 8 ∧ Y.1 8 (s * 100 + t) = 0 ∧ Y.1 9 (s * 100 + t) = 0 ∧ Y.1 10 (s * 100 + t) = 0 ∧ Y.1 11 (s * 100 + t) = 0 ∧ Y.1 12 (s * 100 + t) = 0)
theorem rAll_pos {st vo ti : Nat → Int32} {s t : Int32} {n : Nat} (hvo : ∀ k, k < n → vo k = nI 0 ∨ vo k = nI 1 ∨ vo k = nI 2) (h : ∃ k, k < n ∧ rAt st ti k s t) : 0 < rAll st vo ti n s t 3 := by
  obtain ⟨k, hk, ha⟩ := h
  simp only [rAll, Nat.zero_add]
  rcases hvo k hk with e | e | e
  · have := (rMany_pos (st := st) (vo := vo) (ti := ti) (s := s) (t := t) (v := nI 0) n).mpr ⟨k, hk, ha, e⟩; omega
  · have := (rMany_pos (st := st) (vo := vo) (ti := ti) (s := s) (t := t) (v := nI 1) n).mpr ⟨k, hk, ha, e⟩; omega
  · have := (rMany_pos (st := st) (vo := vo) (ti := ti) (s := s) (t := t) (v := nI 2) n).mpr ⟨k, hk, ha, e⟩; omega
theorem cell_n0 {a : Nat → Nat → Int32} {n : Nat} {spk : Nat → Int32} {s t : Int32} {ce : Nat} {X : lS} (hn : n ≤ 60) (hvo : ∀ k, k < n → a 8 k = nI 0 ∨ a 8 k = nI 1 ∨ a 8 k = nI 2) (h : CellX a n spk s t ce X) (hk : ∃ k, k < n ∧ rAt (a 7) (a 9) k s t) : ¬ X.1 9 ce = 0 := by
  obtain ⟨as, d, g, r, -, -, q, -⟩ := h
  rw [q]
  have h1 := rAll_pos hvo hk
  have h2 := rAll_le (a 7) (a 8) (a 9) n s t 3
  exact nI_ne0 h1 (by omega)
theorem I2_0 {a : Nat → Nat → Int32} {n : Nat} {spk : Nat → Int32} {Y : lS} (hn : n ≤ 60) (hJ : JK Y) (h1 : ∀ k, k < n → Y.1 1 k = spk k) (hC : ∀ j, j < 60 → Y.2.1 j = 0) (h7 : ∀ j, j < 400 → Y.1 7 j = 8) (h8 : ∀ j, j < 400 → Y.1 8 j = 0) (h9 : ∀ j, j < 400 → Y.1 9 j = 0) (h10 : ∀ j, j < 400 → Y.1 10 j = 0) (h11 : ∀ j, j < 400 → Y.1 11 j = 0) (h12 : ∀ j, j < 400 → Y.1 12 j = 0) : I2 a n spk 0 Y :=
  ⟨hJ, h1, fun s t hs ht => ⟨fun ⟨k, hk, _⟩ => absurd hk (Nat.not_lt_zero k), fun _ => ⟨fun x hx _ => hC x (by omega), h7 _ (by omega), h8 _ (by omega), h9 _ (by omega), h10 _ (by omega), h11 _ (by omega), h12 _ (by omega)⟩⟩⟩
theorem I2_skip {a : Nat → Nat → Int32} {n : Nat} {spk : Nat → Int32} {i : Nat} {Y : lS} {s t : Nat} (hs : s < 4) (ht : t < 100) (es : a 7 i = nI s) (et : a 9 i = nI t) (h : I2 a n spk i Y) (h9 : ¬ Y.1 9 (s * 100 + t) = 0) : I2 a n spk (i + 1) Y := by
  obtain ⟨hJ, h1, h2⟩ := h
  have hex : ∃ k, k < i ∧ rAt (a 7) (a 9) k (nI s) (nI t) := Classical.not_not.mp (fun q => h9 ((h2 s t hs ht).2 (fun k hk ha => q ⟨k, hk, ha⟩)).2.2.2.1)
  refine ⟨hJ, h1, fun s' t' hs' ht' => ⟨fun ⟨k, hk, ha⟩ => ?_, fun q => (h2 s' t' hs' ht').2 (fun k hk => q k (by omega))⟩⟩
  rcases Nat.lt_succ_iff_lt_or_eq.mp hk with w | w
  · exact (h2 s' t' hs' ht').1 ⟨k, w, ha⟩
  · rw [w] at ha
    have e1 : s = s' := (nI_eq (by omega) (by omega)).mp (es.symm.trans ha.1)
    have e2 : t = t' := (nI_eq (by omega) (by omega)).mp (et.symm.trans ha.2)
    rw [← e1, ← e2]
    exact (h2 s t hs ht).1 hex
theorem I2_pre {a : Nat → Nat → Int32} {n : Nat} {spk : Nat → Int32} {i : Nat} {Y : lS} {s t : Nat} (hn : n ≤ 60) (hvo : ∀ k, k < n → a 8 k = nI 0 ∨ a 8 k = nI 1 ∨ a 8 k = nI 2) (hi : i < n) (hs : s < 4) (ht : t < 100) (h : I2 a n spk i Y) (h9 : Y.1 9 (s * 100 + t) = 0) : (∀ k, k < i → ¬ rAt (a 7) (a 9) k (nI s) (nI t)) ∧ (∀ x, x < n → rAt (a 7) (a 9) x (nI s) (nI t) → Y.2.1 x = 0) ∧ Y.1 7 (s * 100 + t) = 8 ∧ Y.1 8 (s * 100 + t) = 0 ∧ Y.1 9 (s * 100 + t) = 0 ∧ Y.1 10 (s * 100 + t) = 0 ∧ Y.1 11 (s * 100 + t) = 0 ∧ Y.1 12 (s * 100 + t) = 0 := by
  obtain ⟨hJ, h1, h2⟩ := h
  have hno : ∀ k, k < i → ¬ rAt (a 7) (a 9) k (nI s) (nI t) := fun k hk ha => cell_n0 hn hvo ((h2 s t hs ht).1 ⟨k, hk, ha⟩) ⟨k, by omega, ha⟩ h9
  exact ⟨hno, (h2 s t hs ht).2 hno⟩
theorem I2_lay {a : Nat → Nat → Int32} {n : Nat} {spk : Nat → Int32} {i : Nat} {Y Y' : lS} {s t : Nat} (hs : s < 4) (ht : t < 100) (es : a 7 i = nI s) (et : a 9 i = nI t) (h : I2 a n spk i Y) (hp : LPost a n spk (nI s) (nI t) (s * 100 + t) Y Y') : I2 a n spk (i + 1) Y' := by
  obtain ⟨hJ, h1, h2⟩ := h
  obtain ⟨p1, p2, p3, p4, p5⟩ := hp
  refine ⟨p1, fun k hk => by rw [p2]; exact h1 k hk, fun s' t' hs' ht' => ?_⟩
  by_cases c : s' = s ∧ t' = t
  · rw [c.1, c.2]
    exact ⟨fun _ => p3, fun q => absurd ⟨es, et⟩ (q i (Nat.lt_succ_self i))⟩
  · have hce : ¬ s' * 100 + t' = s * 100 + t := by omega
    have hno : ∀ x, rAt (a 7) (a 9) x (nI s') (nI t') → ¬ rAt (a 7) (a 9) x (nI s) (nI t) := fun x hx hy => c ⟨(nI_eq (by omega) (by omega)).mp (hx.1.symm.trans hy.1), (nI_eq (by omega) (by omega)).mp (hx.2.symm.trans hy.2)⟩
    obtain ⟨e7, e8, e9, e10, e11, e12⟩ := p5 _ hce
    refine ⟨fun ⟨k, hk, ha⟩ => ?_, fun q => ?_⟩
    · have hk' : k < i := Nat.lt_of_le_of_ne (Nat.le_of_lt_succ hk) (fun e => hno k ha (by rw [e]; exact ⟨es, et⟩))
      exact CellOK_frame ((h2 s' t' hs' ht').1 ⟨k, hk', ha⟩) (fun x hx hxa => p4 x (fun z => hno x hxa z.2)) e7 e8 e9 e10 e11 e12
    · obtain ⟨w0, w7, w8, w9, w10, w11, w12⟩ := (h2 s' t' hs' ht').2 (fun k hk => q k (by omega))
      refine ⟨fun x hx hxa => ?_, by rw [e7]; exact w7, by rw [e8]; exact w8, by rw [e9]; exact w9, by rw [e10]; exact w10, by rw [e11]; exact w11, by rw [e12]; exact w12⟩
      rw [(p4 x (fun z => hno x hxa z.2)).2.2.2.2]
      exact w0 x hx hxa
theorem I2_n {a : Nat → Nat → Int32} {n m : Nat} {Y : lS} (h : I2 a n (spK a m) n Y) : JK Y ∧ LK a n m Y := by
  obtain ⟨hJ, h1, h2⟩ := h
  refine ⟨hJ, h1, fun s t hs ht => ?_⟩
  by_cases c : ∃ k, k < n ∧ rAt (a 7) (a 9) k (nI s) (nI t)
  · exact (h2 s t hs ht).1 c
  · have hno : ∀ k, k < n → ¬ rAt (a 7) (a 9) k (nI s) (nI t) := fun k hk ha => c ⟨k, hk, ha⟩
    obtain ⟨w0, w7, w8, w9, w10, w11, w12⟩ := (h2 s t hs ht).2 hno
    exact cell_empty hno w7 w8 w9 w10 w11 w12
/-! values of the layout's state while it is laid anew -/
def r1X (X : lS) (f : Nat → Int32) : lS := (fun i => if i = 1 then f else X.1 i, X.2)
def c60 (f : Nat → Nat) (j : Nat) : Nat := if j < 60 then f j else 0
def clX (X : lS) (u : (Nat → Nat → Int32) × (Nat → Nat)) : lS := (fun i => if i ≤ 5 then X.1 i else u.1 i, c60 u.2, X.2.2)
theorem arrV_congr (cI : ClassId) (N : Nat) {f g : Nat → Value} (h : ∀ j, j < N → f j = g j) : arrV cI N f = arrV cI N g := by
  unfold arrV
  congr 1
  apply Array.ext_getElem?
  intro j
  by_cases hj : j < N
  · simp [hj, h j hj]
  · simp [hj]
/-- a row may be told by another function that agrees on it -/
theorem va_Prow {D : va_G} {ws : va_W} {H : Heap} (hP : va_P D vwCl ws H) (q0 : Nat) {b : Nat} {cA : ClassId} {N : Nat} {f g : Nat → Int32} (ha : ws[q0]? = some (b, .inl (cA, N, .inl f))) (h : ∀ j, j < N → f j = g j) : va_P D vwCl (ws.set q0 (b, .inl (cA, N, .inl g))) H := by
  intro k q hk
  rw [List.getElem?_set] at hk
  by_cases c : q0 = k
  · rw [if_pos c] at hk
    split at hk
    · cases hk
      have h1 := hP q0 _ ha
      show H[b]? = some (arrV cA N (fun j => .int (g j)))
      rw [← arrV_congr cA N (f := fun j => Value.int (f j)) (fun j hj => by rw [h j hj])]
      exact h1
    · cases hk
  · rw [if_neg c] at hk
    exact hP k q hk
