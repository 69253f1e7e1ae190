/-! PURE MATHEMATICS 2: ends, stems, heads turned, voices moved -/
section
variable {st vo ti l1 sp : Nat → Int32} {s t : Int32} {n : Nat}
theorem end_hi {v hg0 : Int32} (h : ∀ k, k < n → sp k = l1 k) (hb : ∀ k, k < n → spB (l1 k)) (k : Nat) (hk : k ≤ n) : (rMany st vo ti s t v k = 0 → rEnd st vo ti sp s t v True k = -1000) ∧ (0 < rMany st vo ti s t v k → gHg st vo ti l1 s t v hg0 k = rEnd st vo ti sp s t v True k) := by
  induction k with
  | zero => exact ⟨fun _ => by rw [rEnd, if_pos trivial], fun q => absurd q (Nat.lt_irrefl 0)⟩
  | succ k ih =>
    obtain ⟨h1, h2⟩ := ih (by omega)
    by_cases c : rIn st vo ti k s t v
    · rw [rMany_t c, gHg_t c]
      refine ⟨fun q => absurd q (Nat.succ_ne_zero _), fun _ => ?_⟩
      by_cases q : rMany st vo ti s t v k = 0
      · have hlt : (-1000 : Int32) < sp k := by
          rw [Int32.lt_iff_toInt_lt, show (-1000 : Int32).toInt = -1000 by decide, h k (by omega)]
          exact (hb k (by omega)).1
        rw [if_pos q, rEnd_s c (iff_tt trivial (by rw [h1 q]; exact hlt)), h k (by omega)]
      · rw [if_neg q, h2 (by omega), ← h k (by omega)]
        by_cases w : rEnd st vo ti sp s t v True k < sp k
        · rw [mxI_t w, rEnd_s c (iff_tt trivial w)]
        · rw [mxI_f w, rEnd_o c (iff_tf trivial w)]
    · rw [rMany_f c, gHg_f c, rEnd_n c]
      exact ⟨h1, h2⟩
theorem end_lo {v lw0 : Int32} (h : ∀ k, k < n → sp k = l1 k) (hb : ∀ k, k < n → spB (l1 k)) (k : Nat) (hk : k ≤ n) : (rMany st vo ti s t v k = 0 → rEnd st vo ti sp s t v False k = 1000) ∧ (0 < rMany st vo ti s t v k → gLw st vo ti l1 s t v lw0 k = rEnd st vo ti sp s t v False k) := by
  induction k with
  | zero => exact ⟨fun _ => by rw [rEnd, if_neg (fun q => q)], fun q => absurd q (Nat.lt_irrefl 0)⟩
  | succ k ih =>
    obtain ⟨h1, h2⟩ := ih (by omega)
    by_cases c : rIn st vo ti k s t v
    · rw [rMany_t c, gLw_t c]
      refine ⟨fun q => absurd q (Nat.succ_ne_zero _), fun _ => ?_⟩
      by_cases q : rMany st vo ti s t v k = 0
      · have hlt : ¬ (1000 : Int32) < sp k := by
          rw [Int32.lt_iff_toInt_lt, show (1000 : Int32).toInt = 1000 by decide, h k (by omega)]
          have := (hb k (by omega)).2
          omega
        rw [if_pos q, rEnd_s c (iff_ff (fun z => z) (by rw [h1 q]; exact hlt)), h k (by omega)]
      · rw [if_neg q, h2 (by omega), ← h k (by omega)]
        by_cases w : rEnd st vo ti sp s t v False k < sp k
        · rw [rEnd_o c (iff_ft (fun z => z) w), mnI_f (fun z => by
            rw [Int32.lt_iff_toInt_lt] at z w; omega)]
        · rw [rEnd_s c (iff_ff (fun z => z) w)]
          by_cases y : sp k < rEnd st vo ti sp s t v False k
          · rw [mnI_t y]
          · rw [mnI_f y]
            apply Int32.toInt_inj.mp
            rw [Int32.lt_iff_toInt_lt] at w y
            omega
    · rw [rMany_f c, gLw_f c, rEnd_n c]
      exact ⟨h1, h2⟩
theorem les_v (st vo ti : Nat → Int32) (s t : Int32) (n : Nat) : rLes st vo ti n s t (nI 0) 3 = 0 ∧ rLes st vo ti n s t (nI 1) 3 = rMany st vo ti s t (nI 0) n ∧ rLes st vo ti n s t (nI 2) 3 = rMany st vo ti s t (nI 0) n + rMany st vo ti s t (nI 1) n ∧ rGre st vo ti n s t (nI 0) 3 = rMany st vo ti s t (nI 1) n + rMany st vo ti s t (nI 2) n ∧ rGre st vo ti n s t (nI 1) 3 = rMany st vo ti s t (nI 2) n ∧ rGre st vo ti n s t (nI 2) 3 = 0 := by
  have d00 : ¬ nI 0 < nI 0 := by decide
  have d01 : nI 0 < nI 1 := by decide
  have d02 : nI 0 < nI 2 := by decide
  have d10 : ¬ nI 1 < nI 0 := by decide
  have d11 : ¬ nI 1 < nI 1 := by decide
  have d12 : nI 1 < nI 2 := by decide
  have d20 : ¬ nI 2 < nI 0 := by decide
  have d21 : ¬ nI 2 < nI 1 := by decide
  have d22 : ¬ nI 2 < nI 2 := by decide
  refine ⟨?_, ?_, ?_, ?_, ?_, ?_⟩ <;> simp only [rLes, rGre, if_pos, if_neg, d00, d01, d02, d10, d11, d12, d20, d21, d22, if_true, if_false, Nat.zero_add, Nat.add_zero]
theorem cnt_v (z : Nat → Nat) : cCnt z 3 = (if 0 < z 0 then 1 else 0) + (if 0 < z 1 then 1 else 0) + (if 0 < z 2 then 1 else 0) := by
  simp only [cCnt, Nat.zero_add]
/-- the class turns the stems as the reference does -/
theorem up_ok {lw hg : Nat → Int32} {U : Nat → Prop} (h : ∀ k, k < n → sp k = l1 k) (hb : ∀ k, k < n → spB (l1 k)) {v : Nat} (hv : v < 3) (hz : 0 < rMany st vo ti s t (nI v) n) :
    cUp (fun v => rMany st vo ti s t (nI v) n) (fun v => gLw st vo ti l1 s t (nI v) (lw v) n) (fun v => gHg st vo ti l1 s t (nI v) (hg v) n) U v ↔ rUp st vo ti sp n s t (nI v) := by
  obtain ⟨e1, e2, e3, e4, e5, e6⟩ := les_v st vo ti s t n
  unfold cUp
  rw [if_pos hz, cnt_v]
  simp only [(end_hi (hg0 := hg v) h hb n (Nat.le_refl n)).2 hz, (end_lo (lw0 := lw v) h hb n (Nat.le_refl n)).2 hz]
  unfold rUp
  rcases (show v = 0 ∨ v = 1 ∨ v = 2 by omega) with rfl | rfl | rfl
  · rw [e1, e4, if_pos hz]
    by_cases c : 0 < rMany st vo ti s t (nI 1) n ∨ 0 < rMany st vo ti s t (nI 2) n
    · rw [if_pos (by split <;> split <;> omega)]
      exact iff_tt (fun w hw => absurd hw (Nat.not_lt_zero w)) (Or.inl ⟨by omega, rfl⟩)
    · rw [if_neg (by split <;> split <;> omega)]
      constructor
      · intro q; exact Or.inr ⟨by omega, q⟩
      · rintro (q | q)
        · omega
        · exact q.2
  · rw [e2, e5, if_pos hz]
    by_cases c : 0 < rMany st vo ti s t (nI 0) n ∨ 0 < rMany st vo ti s t (nI 2) n
    · rw [if_pos (by split <;> split <;> omega)]
      constructor
      · intro q; have := q 0 (by omega); exact Or.inl ⟨by omega, this⟩
      · rintro (q | q)
        · intro w hw; rw [show w = 0 by omega]; exact q.2
        · omega
    · rw [if_neg (by split <;> split <;> omega)]
      constructor
      · intro q; exact Or.inr ⟨by omega, q⟩
      · rintro (q | q)
        · omega
        · exact q.2
  · rw [e3, e6, if_pos hz]
    by_cases c : 0 < rMany st vo ti s t (nI 0) n ∨ 0 < rMany st vo ti s t (nI 1) n
    · rw [if_pos (by split <;> split <;> omega)]
      constructor
      · intro q; have q0 := q 0 (by omega); have q1 := q 1 (by omega); dsimp only at q0 q1; exact Or.inl ⟨by omega, by omega⟩
      · rintro (q | q)
        · intro w hw
          rcases (show w = 0 ∨ w = 1 by omega) with rfl | rfl
          · dsimp only; omega
          · dsimp only; omega
        · omega
    · rw [if_neg (by split <;> split <;> omega)]
      constructor
      · intro q; exact Or.inr ⟨by omega, q⟩
      · rintro (q | q)
        · omega
        · exact q.2
end
/-! rows written along a chord -/
theorem cStm_out {row : Nat → Int32} {M : Nat → Nat} {U : Prop} {z x : Nat} (h : ∀ i, i < z → ¬ M i = x) : cStm row M U z x = row x := by
  induction z with
  | zero => rfl
  | succ z ih => rw [cStm, pk_un (fun q => h z (Nat.lt_succ_self z) q.symm)]; exact ih (fun i hi => h i (by omega))
theorem cStm_in {row : Nat → Int32} {M : Nat → Nat} {U : Prop} {z x : Nat} (h : ∃ i, i < z ∧ M i = x) : cStm row M U z x = bv U := by
  induction z with
  | zero => obtain ⟨i, hi, -⟩ := h; exact absurd hi (Nat.not_lt_zero i)
  | succ z ih =>
    rw [cStm]
    by_cases c : x = M z
    · rw [c, pk_us]
    · rw [pk_un c]
      obtain ⟨i, hi, e⟩ := h
      exact ih ⟨i, Nat.lt_of_le_of_ne (Nat.le_of_lt_succ hi) (fun q => c (by rw [← e, q])), e⟩
theorem cRow_out {row : Nat → Int32} {M : Nat → Nat} {y : Int32} {z x : Nat} (h : ∀ i, i < z → ¬ M i = x) : cRow row M y z x = row x := by
  induction z with
  | zero => rfl
  | succ z ih => rw [cRow, pk_un (fun q => h z (Nat.lt_succ_self z) q.symm)]; exact ih (fun i hi => h i (by omega))
theorem cRow_in {row : Nat → Int32} {M : Nat → Nat} {y : Int32} {z x : Nat} (h : ∃ i, i < z ∧ M i = x) : cRow row M y z x = y := by
  induction z with
  | zero => obtain ⟨i, hi, -⟩ := h; exact absurd hi (Nat.not_lt_zero i)
  | succ z ih =>
    rw [cRow]
    by_cases c : x = M z
    · rw [c, pk_us]
    · rw [pk_un c]
      obtain ⟨i, hi, e⟩ := h
      exact ih ⟨i, Nat.lt_of_le_of_ne (Nat.le_of_lt_succ hi) (fun q => c (by rw [← e, q])), e⟩
theorem cTurn_out {sp : Nat → Int32} {M : Nat → Nat} {U : Prop} {row : Nat → Int32} {z x : Nat} (h : ∀ i, i < z → ¬ M i = x) : cTurn sp M U row z x = row x := by
  unfold cTurn
  induction z with
  | zero => rfl
  | succ z ih => rw [rTurn, pk_un (fun q => h z (Nat.lt_succ_self z) q.symm)]; exact ih (fun i hi => h i (by omega))
theorem cTurn_in {sp : Nat → Int32} {M : Nat → Nat} {U : Prop} {row : Nat → Int32} {z i : Nat} (h : ∀ p q, p < q → q < z → ¬ M p = M q) (hi : i < z) : cTurn sp M U row z (M i) = @rAsV sp M i U (Classical.propDecidable U) := by
  unfold cTurn
  induction z with
  | zero => exact absurd hi (Nat.not_lt_zero i)
  | succ z ih =>
    rw [rTurn]
    by_cases c : i = z
    · rw [c, pk_us]
    · rw [pk_un (h i z (by omega) (Nat.lt_succ_self z))]
      exact ih (fun p q hp hq => h p q hp (by omega)) (by omega)
theorem rAsd_congr {sp sp' : Nat → Int32} {f : Nat → Nat} {q : Nat} (h : ∀ i, i ≤ q → sp (f i) = sp' (f i)) : rAsd sp f q = rAsd sp' f q := by
  induction q with
  | zero => rfl
  | succ q ih => rw [rAsd, rAsd, ih (fun i hi => h i (by omega)), h q (by omega), h (q + 1) (Nat.le_refl _)]
theorem rAsV_congr {sp sp' : Nat → Int32} {f : Nat → Nat} {q : Nat} {U U' : Prop} (i1 : Decidable U) (i2 : Decidable U') (h : ∀ i, i ≤ q → sp (f i) = sp' (f i)) (hU : U ↔ U') : @rAsV sp f q U i1 = @rAsV sp' f q U' i2 := by
  unfold rAsV
  rw [rAsd_congr h]
  by_cases u : U
  · rw [if_pos u, if_pos (hU.mp u)]
  · rw [if_neg u, if_neg (fun z => u (hU.mpr z))]
theorem rAsV_3 (sp : Nat → Int32) (f : Nat → Nat) (q : Nat) (U : Prop) (i1 : Decidable U) : @rAsV sp f q U i1 = -1 ∨ @rAsV sp f q U i1 = 0 ∨ @rAsV sp f q U i1 = 1 := by
  unfold rAsV
  split
  · split
    · exact Or.inr (Or.inr rfl)
    · exact Or.inl rfl
  · exact Or.inr (Or.inl rfl)
/-! columns as the reference keeps them -/
theorem rCSet_v (st vo ti : Nat → Int32) (s t v : Int32) (co as : Nat → Int32) (N x : Nat) : rCSet st vo ti s t v co as N x = if x < N ∧ rIn st vo ti x s t v then as x else co x := by
  induction N with
  | zero => rw [rCSet, if_neg (fun q => absurd q.1 (Nat.not_lt_zero x))]
  | succ N ih =>
    unfold rCSet
    by_cases c : rIn st vo ti N s t v
    · rw [if_pos c]
      by_cases e : x = N
      · rw [e, pk_us, if_pos ⟨Nat.lt_succ_self N, c⟩]
      · rw [pk_un e, ih]
        by_cases d : x < N ∧ rIn st vo ti x s t v
        · rw [if_pos d, if_pos ⟨by omega, d.2⟩]
        · rw [if_neg d, if_neg (fun q => d ⟨by omega, q.2⟩)]
    · rw [if_neg c, ih]
      by_cases d : x < N ∧ rIn st vo ti x s t v
      · rw [if_pos d, if_pos ⟨by omega, d.2⟩]
      · rw [if_neg d, if_neg (fun q => d ⟨Nat.lt_of_le_of_ne (Nat.le_of_lt_succ q.1) (fun e => c (e ▸ q.2)), q.2⟩)]
theorem rCAdd_v (st vo ti : Nat → Int32) (s t v : Int32) (co : Nat → Int32) (N x : Nat) : rCAdd st vo ti s t v co N x = if x < N ∧ rIn st vo ti x s t v then co x + 1 else co x := by
  induction N generalizing x with
  | zero => rw [rCAdd, if_neg (fun q => absurd q.1 (Nat.not_lt_zero x))]
  | succ N ih =>
    unfold rCAdd
    by_cases e : x = N
    · rw [e, pk_us, ih, if_neg (fun q => absurd q.1 (Nat.lt_irrefl N))]
      by_cases c : rIn st vo ti N s t v
      · rw [if_pos c, if_pos ⟨Nat.lt_succ_self N, c⟩]
      · rw [if_neg c, if_neg (fun q => c q.2), Int32.add_zero]
    · rw [pk_un e, ih]
      by_cases d : x < N ∧ rIn st vo ti x s t v
      · rw [if_pos d, if_pos ⟨by omega, d.2⟩]
      · rw [if_neg d, if_neg (fun q => d ⟨by omega, q.2⟩)]
theorem rCIt_v (st vo ti : Nat → Int32) (s t v : Int32) (n : Nat) (co : Nat → Int32) (i x : Nat) : rCIt st vo ti s t v n co i x = if x < n ∧ rIn st vo ti x s t v then co x + nI i else co x := by
  induction i with
  | zero =>
    rw [rCIt, nI_0, Int32.add_zero]
    split <;> rfl
  | succ i ih =>
    rw [rCIt, rCAdd_v, ih]
    by_cases d : x < n ∧ rIn st vo ti x s t v
    · rw [if_pos d, if_pos d, if_pos d, ← nI_1, Int32.add_assoc]
    · rw [if_neg d, if_neg d, if_neg d]
theorem nI3_inj {v w : Nat} (hv : v < 3) (hw : w < 3) (h : nI v = nI w) : v = w := (nI_eq (by omega) (by omega)).mp h
theorem rCol_v {st vo ti : Nat → Int32} {s t : Int32} {n : Nat} {co as : Nat → Int32} {d : Nat → Nat} {V : Nat} (hV : V ≤ 3) {w x : Nat} (hw : w < V) (hx : x < n) (hi : rIn st vo ti x s t (nI w)) : rCol st vo ti s t n co as d V x = as x + nI (d w) := by
  induction V with
  | zero => exact absurd hw (Nat.not_lt_zero w)
  | succ V ih =>
    unfold rCol
    rw [rCIt_v, rCSet_v]
    by_cases c : rIn st vo ti x s t (nI V)
    · have : w = V := nI3_inj (by omega) (by omega) (hi.2.symm.trans c.2)
      rw [if_pos ⟨hx, c⟩, if_pos ⟨hx, c⟩, this]
    · rw [if_neg (fun q => c q.2), if_neg (fun q => c q.2)]
      exact ih (by omega) (Nat.lt_of_le_of_ne (Nat.le_of_lt_succ hw) (fun e => c (e ▸ hi)))
/-- columns while the voice v is at i -/
theorem rColI_v {st vo ti : Nat → Int32} {s t : Int32} {n : Nat} {co as : Nat → Int32} {d : Nat → Nat} {v : Nat} (hV : v < 3) {i w x : Nat} (hw : w ≤ v) (hx : x < n) (hi : rIn st vo ti x s t (nI w)) : rCIt st vo ti s t (nI v) n (rCSet st vo ti s t (nI v) (rCol st vo ti s t n co as d v) as n) i x = as x + nI (if w = v then i else d w) := by
  rw [rCIt_v, rCSet_v]
  by_cases c : w = v
  · rw [c] at hi
    rw [if_pos ⟨hx, hi⟩, if_pos ⟨hx, hi⟩, if_pos c]
  · have hc : ¬ rIn st vo ti x s t (nI v) := fun q => c (nI3_inj (by omega) hV (hi.2.symm.trans q.2))
    rw [if_neg (fun q => hc q.2), if_neg (fun q => hc q.2), if_neg c]
    exact rCol_v (by omega) (by omega) hx hi
/-- a head of the voice v, at i, lies over one of w, at j -/
def OV (st vo ti l1 l2 as he si : Nat → Int32) (n : Nat) (s t : Int32) (v i w j : Nat) : Prop := ∃ x y, (x < n ∧ rIn st vo ti x s t (nI v)) ∧ (y < n ∧ rIn st vo ti y s t (nI w)) ∧ cPair l1 l2 as he si i j x y
theorem cOver_OV {st vo ti l1 l2 as he si : Nat → Int32} {n : Nat} {s t : Int32} {v w z1 z2 : Nat} {M1 M2 : Nat → Nat} (a1 : ∀ i, i < z1 → M1 i < n ∧ rIn st vo ti (M1 i) s t (nI v)) (b1 : ∀ k, k < n → rIn st vo ti k s t (nI v) → ∃ p, p < z1 ∧ M1 p = k) (a2 : ∀ i, i < z2 → M2 i < n ∧ rIn st vo ti (M2 i) s t (nI w)) (b2 : ∀ k, k < n → rIn st vo ti k s t (nI w) → ∃ p, p < z2 ∧ M2 p = k) (i j : Nat) : cOver l1 l2 as he si z1 i M1 z2 j M2 ↔ OV st vo ti l1 l2 as he si n s t v i w j := by
  constructor
  · intro h
    refine Classical.not_not.mp (fun q => h (fun p hp r hr hc => q ⟨M1 p, M2 r, a1 p hp, a2 r hr, hc⟩))
  · rintro ⟨x, y, hx, hy, hc⟩ h
    obtain ⟨p, hp, e1⟩ := b1 x hx.1 hx.2
    obtain ⟨r, hr, e2⟩ := b2 y hy.1 hy.2
    exact h p hp r hr (by rw [e1, e2]; exact hc)
theorem rOver_OV {st vo ti l1 l2 sp as he si co : Nat → Int32} {n : Nat} {s t : Int32} (h : ∀ k, k < n → sp k = l1 k) (hb : ∀ k, k < n → spB (l1 k)) (hvo : ∀ k, k < n → vo k = nI 0 ∨ vo k = nI 1 ∨ vo k = nI 2) (h2 : ∀ x, x < n → rAt st ti x s t → l2 x = bv (rUp st vo ti sp n s t (vo x)))
    {v i : Nat} (hv : v < 3) {d : Nat → Nat} (hco : ∀ w x, w ≤ v → x < n → rIn st vo ti x s t (nI w) → co x = as x + nI (if w = v then i else d w)) : rOver st vo ti sp he si co n s t (nI v) ↔ ∃ w, w < v ∧ OV st vo ti l1 l2 as he si n s t v i w (d w) := by
  have key : ∀ x y w, x < n → y < n → w < v → rIn st vo ti x s t (nI v) → rIn st vo ti y s t (nI w) → ((co x = co y ∧ ¬ sp x - sp y < -1 ∧ ¬ 1 < sp x - sp y ∧ ¬ rSh st vo ti sp he si n x y) ↔ cPair l1 l2 as he si i (d w) x y) := by
    intro x y w hx hy hw ix iy
    rw [hco v x (Nat.le_refl v) hx ix, hco w y (by omega) hy iy, if_pos rfl, if_neg (by omega)]
    have ha := abs_le1 (hb x hx) (hb y hy)
    unfold cPair
    rw [Int32.add_comm (nI i), Int32.add_comm (nI (d w)), ha, h x hx, h y hy]
    have hs : rSh st vo ti sp he si n x y ↔ cSh l1 l2 he si x y := by
      unfold rSh cSh
      rw [h2 x hx ix.1, h2 y hy iy.1, h x hx, h y hy, ix.1.1, ix.1.2, iy.1.1, iy.1.2]
      exact ⟨fun q => q.2, fun q => ⟨iy.1, q⟩⟩
    rw [hs]
    constructor
    · rintro ⟨q1, q2, q3, q4⟩; exact ⟨q1, ⟨q2, q3⟩, q4⟩
    · rintro ⟨q1, ⟨q2, q3⟩, q4⟩; exact ⟨q1, q2, q3, q4⟩
  have hw3 : ∀ y, y < n → vo y < nI v → ∃ w, w < v ∧ vo y = nI w := by
    intro y hy q
    rcases hvo y hy with e | e | e <;> rw [e] at q ⊢
    · exact ⟨0, (nI_ltI (by omega) (by omega)).mp q, rfl⟩
    · exact ⟨1, (nI_ltI (by omega) (by omega)).mp q, rfl⟩
    · exact ⟨2, (nI_ltI (by omega) (by omega)).mp q, rfl⟩
  constructor
  · intro q
    refine Classical.not_not.mp (fun q2 => q (fun x hx y hy hp => q2 ?_))
    obtain ⟨p1, p2, p3, p4⟩ := hp
    obtain ⟨w, hw, e⟩ := hw3 y hy p3
    exact ⟨w, hw, x, y, ⟨hx, p1⟩, ⟨hy, p2, e⟩, (key x y w hx hy hw p1 ⟨p2, e⟩).mp p4⟩
  · rintro ⟨w, hw, x, y, ⟨hx, ix⟩, ⟨hy, iy⟩, hc⟩ q
    have hk := (key x y w hx hy hw ix iy).mpr hc
    exact q x hx y hy ⟨ix, iy.1, by rw [iy.2]; exact nI_lt hw (by omega), hk⟩
theorem add_small {i : Nat} {a : Int32} (hi : i < 1000) (ha : a = -1 ∨ a = 0 ∨ a = 1) : (nI i + a).toInt = i + a.toInt ∧ -1 ≤ a.toInt ∧ a.toInt ≤ 1 := by
  have hb : -1 ≤ a.toInt ∧ a.toInt ≤ 1 := by
    rcases ha with e | e | e <;> rw [e] <;> decide
  refine ⟨?_, hb⟩
  rw [Int32.toInt_add, nI_toInt (by omega)]
  exact Int.bmod_eq_of_le (by omega) (by omega)
theorem OV_near {st vo ti l1 l2 as he si : Nat → Int32} {n : Nat} {s t : Int32} (h3 : ∀ x, x < n → rAt st ti x s t → as x = -1 ∨ as x = 0 ∨ as x = 1) {v i w j : Nat} (hi : i < 1000) (hj : j < 1000) (h : OV st vo ti l1 l2 as he si n s t v i w j) : i ≤ j + 2 := by
  obtain ⟨x, y, ⟨hx, ix⟩, ⟨hy, iy⟩, hc, -⟩ := h
  obtain ⟨e1, b1, b2⟩ := add_small hi (h3 x hx ix.1)
  obtain ⟨e2, b3, b4⟩ := add_small hj (h3 y hy iy.1)
  have : (nI i + as x).toInt = (nI j + as y).toInt := by rw [hc]
  omega
/-- how far the voices go -/
theorem moves_ex {st vo ti l1 l2 as he si : Nat → Int32} {n : Nat} {s t : Int32} (h3 : ∀ x, x < n → rAt st ti x s t → as x = -1 ∨ as x = 0 ∨ as x = 1) : ∃ d : Nat → Nat, d 0 = 0 ∧ d 1 < 16 ∧ d 2 < 16 ∧ ∀ v, v < 3 → d v < 100 ∧ (¬ ∃ w, w < v ∧ OV st vo ti l1 l2 as he si n s t v (d v) w (d w)) ∧ ∀ i, i < d v → ∃ w, w < v ∧ OV st vo ti l1 l2 as he si n s t v i w (d w) := by
  obtain ⟨d1, p1, m1⟩ := pk_least (fun i => ¬ OV st vo ti l1 l2 as he si n s t 1 i 0 0) ⟨3, fun q => by have := OV_near h3 (by omega) (by omega) q; omega⟩
  have b1 : d1 ≤ 3 := Nat.le_of_not_lt (fun q => m1 3 q (fun z => by have := OV_near h3 (by omega) (by omega) z; omega))
  obtain ⟨d2, p2, m2⟩ := pk_least (fun i => ¬ (OV st vo ti l1 l2 as he si n s t 2 i 0 0 ∨ OV st vo ti l1 l2 as he si n s t 2 i 1 d1)) ⟨6, fun q => by
    rcases q with q | q
    · have := OV_near h3 (by omega) (by omega) q; omega
    · have := OV_near h3 (by omega) (by omega) q; omega⟩
  have b2 : d2 ≤ 6 := Nat.le_of_not_lt (fun q => m2 6 q (fun z => by
    rcases z with z | z
    · have := OV_near h3 (by omega) (by omega) z; omega
    · have := OV_near h3 (by omega) (by omega) z; omega))
  refine ⟨fun v => if v = 0 then 0 else if v = 1 then d1 else d2, rfl, by show d1 < 16; omega, by show d2 < 16; omega, ?_⟩
  intro v hv
  rcases (show v = 0 ∨ v = 1 ∨ v = 2 by omega) with rfl | rfl | rfl
  · refine ⟨by show 0 < 100; omega, ?_, fun i hi => absurd hi (Nat.not_lt_zero i)⟩
    rintro ⟨w, hw, -⟩
    exact absurd hw (Nat.not_lt_zero w)
  · refine ⟨by show d1 < 100; omega, ?_, ?_⟩
    · rintro ⟨w, hw, q⟩
      rw [show w = 0 by omega] at q
      exact p1 q
    · intro i hi
      exact ⟨0, by omega, Classical.not_not.mp (m1 i hi)⟩
  · refine ⟨by show d2 < 100; omega, ?_, ?_⟩
    · rintro ⟨w, hw, q⟩
      rcases (show w = 0 ∨ w = 1 by omega) with rfl | rfl
      · exact p2 (Or.inl q)
      · exact p2 (Or.inr q)
    · intro i hi
      rcases Classical.not_not.mp (m2 i hi) with q | q
      · exact ⟨0, by omega, q⟩
      · exact ⟨1, by omega, q⟩
theorem moves_ok {st vo ti l1 l2 sp as he si co : Nat → Int32} {n : Nat} {s t : Int32} (h : ∀ k, k < n → sp k = l1 k) (hb : ∀ k, k < n → spB (l1 k)) (hvo : ∀ k, k < n → vo k = nI 0 ∨ vo k = nI 1 ∨ vo k = nI 2) (h2 : ∀ x, x < n → rAt st ti x s t → l2 x = bv (rUp st vo ti sp n s t (vo x))) {d : Nat → Nat}
    (hd : ∀ v, v < 3 → d v < 100 ∧ (¬ ∃ w, w < v ∧ OV st vo ti l1 l2 as he si n s t v (d v) w (d w)) ∧ ∀ i, i < d v → ∃ w, w < v ∧ OV st vo ti l1 l2 as he si n s t v i w (d w)) : rMoves st vo ti sp he si n s t co as d := by
  intro v hv
  obtain ⟨q1, q2, q3⟩ := hd v hv
  refine ⟨q1, fun z => q2 ((rOver_OV (as := as) (d := d) (i := d v) h hb hvo h2 hv (fun w x hw hx hi => rColI_v hv hw hx hi)).mp z), fun i hi => ?_⟩
  exact (rOver_OV (as := as) (d := d) (i := i) h hb hvo h2 hv (fun w x hw hx hi => rColI_v hv hw hx hi)).mpr (q3 i hi)
