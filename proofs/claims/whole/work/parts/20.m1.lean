/-! PURE MATHEMATICS 1: sequences by choice, members of a chord, the sort, the order of heads -/
def foldA {S A : Type} (step : Nat → S → A → S) (s0 : S) (f : Nat → A) : Nat → S
  | 0 => s0
  | i + 1 => step i (foldA step s0 f i) (f i)
theorem foldA_congr {S A : Type} {step : Nat → S → A → S} {s0 : S} {f g : Nat → A} {N : Nat} (h : ∀ i, i < N → f i = g i) : foldA step s0 f N = foldA step s0 g N := by
  induction N with
  | zero => rfl
  | succ N ih =>
    unfold foldA
    rw [ih (fun i hi => h i (by omega)), h N (by omega)]
theorem dch {S A : Type} (step : Nat → S → A → S) (s0 : S) (a0 : A) (Inv : Nat → S → Prop) (good : Nat → S → A → Prop) (N : Nat) (h0 : Inv 0 s0)
    (h : ∀ i s, i < N → Inv i s → ∃ a, good i s a ∧ Inv (i + 1) (step i s a)) : ∃ f : Nat → A, (∀ i, N ≤ i → f i = a0) ∧ (∀ i, i < N → good i (foldA step s0 f i) (f i)) ∧ ∀ i, i ≤ N → Inv i (foldA step s0 f i) := by
  induction N with
  | zero => exact ⟨fun _ => a0, fun _ _ => rfl, fun i hi => absurd hi (Nat.not_lt_zero i), fun i hi => by rw [show i = 0 by omega]; exact h0⟩
  | succ N ih =>
    obtain ⟨f, f1, f2, f3⟩ := ih (fun i s hi => h i s (by omega))
    obtain ⟨a, ha, hb⟩ := h N _ (Nat.lt_succ_self N) (f3 N (Nat.le_refl N))
    have hc : ∀ i, i ≤ N → foldA step s0 (va_up f N a) i = foldA step s0 f i := fun i hi => foldA_congr (fun j hj => va_up_ne f a (by omega))
    refine ⟨va_up f N a, fun i hi => by rw [va_up_ne f a (by omega)]; exact f1 i (by omega), fun i hi => ?_, fun i hi => ?_⟩
    · rw [hc i (by omega)]
      rcases Nat.lt_succ_iff_lt_or_eq.mp hi with q | q
      · rw [va_up_ne f a (by omega)]; exact f2 i q
      · rw [q, va_up_self]; exact ha
    · rcases Nat.le_succ_iff.mp hi with q | q
      · rw [hc i q]; exact f3 i q
      · rw [q]
        unfold foldA
        rw [hc N (Nat.le_refl N), va_up_self]
        exact hb
theorem rIns_v (R : Nat → Nat) (i t j : Nat) (h : t ≤ i) : rIns R i t j = if i - t < j ∧ j ≤ i then R (j - 1) else R j := by
  induction t generalizing j with
  | zero => rw [rIns, if_neg (by omega)]
  | succ t ih =>
    unfold rIns
    by_cases hj : j = i - t
    · rw [hj, va_up_self, ih _ (by omega), if_neg (by omega), if_pos (by omega)]
    · rw [va_up_ne _ _ hj, ih _ (by omega)]
      by_cases c : i - t < j ∧ j ≤ i
      · rw [if_pos c, if_pos (by omega)]
      · rw [if_neg c, if_neg (by omega)]
theorem rIns_60 {R : Nat → Nat} (h : ∀ j, R j < 60) (i t j : Nat) : rIns R i t j < 60 := by
  induction t generalizing j with
  | zero => exact h j
  | succ t ih =>
    unfold rIns va_up
    split
    · exact ih _
    · exact ih _
theorem rSrt_60 {R tt : Nat → Nat} (h : ∀ j, R j < 60) (i j : Nat) : rSrt R tt i j < 60 := by
  induction i generalizing j with
  | zero => exact h j
  | succ i ih =>
    unfold rSrt va_up
    split
    · exact ih _
    · exact rIns_60 ih _ _ _
def iStep (i : Nat) (S : Nat → Nat) (t : Nat) : Nat → Nat := va_up (rIns S (i + 1) t) (i + 1 - t) (S (i + 1))
theorem rSrt_fold (R tt : Nat → Nat) (i : Nat) : rSrt R tt i = foldA iStep R tt i := by
  induction i with
  | zero => rfl
  | succ i ih =>
    unfold rSrt foldA
    rw [ih]
    rfl
theorem iStep_v (i : Nat) (S : Nat → Nat) (t p : Nat) (h : t ≤ i + 1) : iStep i S t p = if p = i + 1 - t then S (i + 1) else if i + 1 - t < p ∧ p ≤ i + 1 then S (p - 1) else S p := by
  unfold iStep
  by_cases c : p = i + 1 - t
  · rw [c, va_up_self, if_pos rfl]
  · rw [va_up_ne _ _ c, if_neg c, rIns_v _ _ _ _ h]
/-- the class's sort: there are shifts as it makes them, the row is in order then, and has the same members -/
theorem srt_ex (sp : Nat → Int32) (U : Prop) (R : Nat → Nat) (K : Nat → Int) (z : Nat) (hK : ∀ i j, i < z → j < i → (cBef U (sp (R i)) (sp (R j)) ↔ K (R i) < K (R j))) (hI : ∀ i j, i < z → j < i → K (R i) ≠ K (R j)) :
    ∃ tt : Nat → Nat, rSrtOk sp U R tt z ∧ (∀ p q, p < q → q < z → K (rSrt R tt (z - 1) p) < K (rSrt R tt (z - 1) q)) ∧ (∀ p, p < z → ∃ j, j < z ∧ rSrt R tt (z - 1) p = R j) ∧ (∀ j, j < z → ∃ p, p < z ∧ rSrt R tt (z - 1) p = R j) := by
  obtain ⟨tt, -, g, I⟩ := dch iStep R 0 (fun i S => (∀ p q, p < q → q ≤ i → K (S p) < K (S q)) ∧ (∀ p, p ≤ i → ∃ j, j ≤ i ∧ S p = R j) ∧ (∀ j, j ≤ i → ∃ p, p ≤ i ∧ S p = R j) ∧ ∀ p, i < p → S p = R p)
    (fun i S t => t ≤ i + 1 ∧ (∀ t', t' < t → cBef U (sp (S (i + 1))) (sp (rIns S (i + 1) t' (i + 1 - t' - 1)))) ∧ (t < i + 1 → ¬ cBef U (sp (S (i + 1))) (sp (rIns S (i + 1) t (i + 1 - t - 1))))) (z - 1)
    ⟨fun p q h1 h2 => by omega, fun p hp => ⟨p, hp, rfl⟩, fun j hj => ⟨j, hj, rfl⟩, fun p _ => rfl⟩
    (by
      intro i S hi ⟨s1, s2, s3, s4⟩
      obtain ⟨t, ht, hm⟩ := pk_least (fun t => i + 1 ≤ t ∨ ¬ cBef U (sp (S (i + 1))) (sp (rIns S (i + 1) t (i + 1 - t - 1)))) ⟨i + 1, Or.inl (Nat.le_refl _)⟩
      have ht1 : t ≤ i + 1 := Nat.le_of_not_lt (fun q => hm (i + 1) q (Or.inl (Nat.le_refl _)))
      have hx : S (i + 1) = R (i + 1) := s4 _ (Nat.lt_succ_self i)
      have hb : ∀ t', t' < t → cBef U (sp (S (i + 1))) (sp (rIns S (i + 1) t' (i + 1 - t' - 1))) := fun t' h' => Classical.not_not.mp (fun q => hm t' h' (Or.inr q))
      have hn : t < i + 1 → ¬ cBef U (sp (S (i + 1))) (sp (rIns S (i + 1) t (i + 1 - t - 1))) := fun h' => ht.resolve_left (by omega)
      have hv : ∀ t', t' ≤ i → rIns S (i + 1) t' (i + 1 - t' - 1) = S (i - t') := fun t' h' => by
        rw [rIns_v _ _ _ _ (by omega), if_neg (by omega)]
        congr 1
        omega
      have hcmp : ∀ p, p ≤ i → (cBef U (sp (S (i + 1))) (sp (S p)) ↔ K (S (i + 1)) < K (S p)) ∧ K (S (i + 1)) ≠ K (S p) := by
        intro p hp
        obtain ⟨j, hj, e⟩ := s2 p hp
        rw [hx, e]
        exact ⟨hK (i + 1) j (by omega) (by omega), hI (i + 1) j (by omega) (by omega)⟩
      have hR : ∀ p, i + 1 - t ≤ p → p ≤ i → K (S (i + 1)) < K (S p) := by
        intro p h1 h2
        have h3 := hb (i - p) (by omega)
        rw [hv _ (by omega), show i - (i - p) = p by omega] at h3
        exact (hcmp p h2).1.mp h3
      have hL : ∀ p, p < i + 1 - t → K (S p) < K (S (i + 1)) := by
        intro p h1
        have h3 := hn (by omega)
        rw [hv _ (by omega)] at h3
        have h4 := hcmp (i - t) (by omega)
        have h5 : ¬ K (S (i + 1)) < K (S (i - t)) := fun q => h3 (h4.1.mpr q)
        have h6 := h4.2
        rcases Nat.lt_or_eq_of_le (show p ≤ i - t by omega) with q | q
        · have := s1 p (i - t) q (by omega); omega
        · rw [q]; omega
      refine ⟨t, ⟨ht1, hb, hn⟩, ?_, ?_, ?_, ?_⟩
      · intro p q h1 h2
        rw [iStep_v _ _ _ _ ht1, iStep_v _ _ _ _ ht1]
        by_cases c1 : p = i + 1 - t
        · rw [if_pos c1, if_neg (by omega), if_pos (by omega)]
          exact hR _ (by omega) (by omega)
        · rw [if_neg c1]
          by_cases c2 : i + 1 - t < p ∧ p ≤ i + 1
          · rw [if_pos c2, if_neg (by omega), if_pos (by omega)]
            exact s1 _ _ (by omega) (by omega)
          · rw [if_neg c2]
            by_cases c3 : q = i + 1 - t
            · rw [if_pos c3]; exact hL _ (by omega)
            · rw [if_neg c3]
              by_cases c4 : i + 1 - t < q ∧ q ≤ i + 1
              · rw [if_pos c4]
                have h5 := hL p (by omega)
                have h6 := hR (q - 1) (by omega) (by omega)
                omega
              · rw [if_neg c4]; exact s1 _ _ h1 (by omega)
      · intro p hp
        rw [iStep_v _ _ _ _ ht1]
        by_cases c1 : p = i + 1 - t
        · rw [if_pos c1]; exact ⟨i + 1, Nat.le_refl _, hx⟩
        · rw [if_neg c1]
          by_cases c2 : i + 1 - t < p ∧ p ≤ i + 1
          · rw [if_pos c2]
            obtain ⟨j, hj, e⟩ := s2 (p - 1) (by omega)
            exact ⟨j, by omega, e⟩
          · rw [if_neg c2]
            obtain ⟨j, hj, e⟩ := s2 p (by omega)
            exact ⟨j, by omega, e⟩
      · intro j hj
        rcases Nat.le_succ_iff.mp hj with q | q
        · obtain ⟨p, hp, e⟩ := s3 j q
          by_cases c1 : p < i + 1 - t
          · exact ⟨p, by omega, by rw [iStep_v _ _ _ _ ht1, if_neg (by omega), if_neg (by omega)]; exact e⟩
          · exact ⟨p + 1, by omega, by rw [iStep_v _ _ _ _ ht1, if_neg (by omega), if_pos (by omega)]; exact e⟩
        · exact ⟨i + 1 - t, by omega, by rw [iStep_v _ _ _ _ ht1, if_pos rfl, q]; exact hx⟩
      · intro p hp
        rw [iStep_v _ _ _ _ ht1, if_neg (by omega), if_neg (by omega)]
        exact s4 p (by omega))
  refine ⟨tt, ?_, ?_, ?_, ?_⟩
  · intro i hi
    have h := g i (by omega)
    rw [← rSrt_fold] at h
    exact h
  · intro p q h1 h2
    have h := I (z - 1) (Nat.le_refl _)
    rw [← rSrt_fold] at h
    exact h.1 p q h1 (by omega)
  · intro p hp
    have h := I (z - 1) (Nat.le_refl _)
    rw [← rSrt_fold] at h
    obtain ⟨j, hj, e⟩ := h.2.1 p (by omega)
    exact ⟨j, by omega, e⟩
  · intro j hj
    have h := I (z - 1) (Nat.le_refl _)
    rw [← rSrt_fold] at h
    obtain ⟨p, hp, e⟩ := h.2.2.1 j (by omega)
    exact ⟨p, by omega, e⟩
/-- the heads that are gathered: members by numbers, all of them -/
theorem gM_spec (st vo ti : Nat → Int32) (s t v : Int32) (M0 : Nat → Nat) (n : Nat) :
    (∀ j, j < rMany st vo ti s t v n → gM st vo ti s t v M0 n j < n ∧ rIn st vo ti (gM st vo ti s t v M0 n j) s t v) ∧ (∀ i j, i < j → j < rMany st vo ti s t v n → gM st vo ti s t v M0 n i < gM st vo ti s t v M0 n j) ∧ (∀ k, k < n → rIn st vo ti k s t v → ∃ j, j < rMany st vo ti s t v n ∧ gM st vo ti s t v M0 n j = k) := by
  induction n with
  | zero => exact ⟨fun j hj => absurd hj (Nat.not_lt_zero j), fun i j _ hj => absurd hj (Nat.not_lt_zero j), fun k hk => absurd hk (Nat.not_lt_zero k)⟩
  | succ n ih =>
    obtain ⟨h1, h2, h3⟩ := ih
    by_cases c : rIn st vo ti n s t v
    · rw [rMany_t c, gM_t c]
      refine ⟨fun j hj => ?_, fun i j hij hj => ?_, fun k hk hi => ?_⟩
      · by_cases q : j = rMany st vo ti s t v n
        · rw [q, va_up_self]; exact ⟨Nat.lt_succ_self n, c⟩
        · rw [va_up_ne _ _ q]; have := h1 j (by omega); exact ⟨by omega, this.2⟩
      · rw [va_up_ne _ _ (show i ≠ rMany st vo ti s t v n by omega)]
        by_cases q : j = rMany st vo ti s t v n
        · rw [q, va_up_self]; exact (h1 i (by omega)).1
        · rw [va_up_ne _ _ q]; exact h2 i j hij (by omega)
      · rcases Nat.lt_succ_iff_lt_or_eq.mp hk with q | q
        · obtain ⟨j, hj, e⟩ := h3 k q hi
          exact ⟨j, by omega, by rw [va_up_ne _ _ (by omega)]; exact e⟩
        · exact ⟨_, Nat.lt_succ_self _, by rw [va_up_self, q]⟩
    · rw [rMany_f c, gM_f c]
      refine ⟨fun j hj => ⟨Nat.lt_succ_of_lt (h1 j hj).1, (h1 j hj).2⟩, h2, fun k hk hi => ?_⟩
      rcases Nat.lt_succ_iff_lt_or_eq.mp hk with q | q
      · exact h3 k q hi
      · rw [q] at hi; exact absurd hi c
theorem gM_60 {st vo ti : Nat → Int32} {s t v : Int32} {M0 : Nat → Nat} {n : Nat} (hn : n ≤ 60) (h : ∀ j, M0 j < 60) (j : Nat) : gM st vo ti s t v M0 n j < 60 := by
  induction n with
  | zero => exact h j
  | succ n ih =>
    unfold gM
    split
    · unfold va_up
      split
      · omega
      · exact ih (by omega)
    · exact ih (by omega)
theorem rNxt_spec (st vo ti sp : Nat → Int32) (s t v : Int32) (up : Prop) [Decidable up] (K : Nat → Int) (la : Option Nat) (n : Nat) (hA : ∀ x y, x < n → y < n → (rAhead sp x y up ↔ K x < K y)) (m : Nat) (hm : m ≤ n) :
    (∀ i, rNxt st vo ti sp s t v up la m = some i → i < m ∧ rIn st vo ti i s t v ∧ rAhB sp la i up = true ∧ ∀ k, k < m → rIn st vo ti k s t v → rAhB sp la k up = true → K i ≤ K k) ∧ (rNxt st vo ti sp s t v up la m = none → ∀ k, k < m → ¬ (rIn st vo ti k s t v ∧ rAhB sp la k up = true)) := by
  induction m with
  | zero => exact ⟨fun i h => absurd h (by intro q; cases q), fun _ k hk => absurd hk (Nat.not_lt_zero k)⟩
  | succ m ih =>
    obtain ⟨h1, h2⟩ := ih (by omega)
    rw [rNxt]
    cases ho : rNxt st vo ti sp s t v up la m with
    | none =>
      have hb := h2 ho
      by_cases c : rIn st vo ti m s t v ∧ rAhB sp la m up = true
      · rw [if_pos ⟨c, rfl⟩]
        refine ⟨fun i h => ?_, fun h => by cases h⟩
        cases h
        refine ⟨Nat.lt_succ_self _, c.1, c.2, fun k hk q1 q2 => ?_⟩
        rcases Nat.lt_succ_iff_lt_or_eq.mp hk with q | q
        · exact absurd ⟨q1, q2⟩ (hb k q)
        · rw [q]; exact Int.le_refl _
      · rw [if_neg (fun q => c q.1)]
        refine ⟨fun i h => absurd h (by intro q; cases q), fun _ k hk => ?_⟩
        rcases Nat.lt_succ_iff_lt_or_eq.mp hk with q | q
        · exact hb k q
        · rw [q]; exact c
    | some j =>
      obtain ⟨j1, j2, j3, j4⟩ := h1 j ho
      by_cases c : (rIn st vo ti m s t v ∧ rAhB sp la m up = true) ∧ rAhC sp m (some j) up = true
      · rw [if_pos c]
        refine ⟨fun i h => ?_, fun h => by cases h⟩
        cases h
        have c2 : K m < K j := (hA m j (by omega) (by omega)).mp (of_decide_eq_true c.2)
        refine ⟨Nat.lt_succ_self _, c.1.1, c.1.2, fun k hk q1 q2 => ?_⟩
        rcases Nat.lt_succ_iff_lt_or_eq.mp hk with q | q
        · have := j4 k q q1 q2; omega
        · rw [q]; exact Int.le_refl _
      · rw [if_neg c]
        refine ⟨fun i h => ?_, fun h => by cases h⟩
        cases h
        refine ⟨by omega, j2, j3, fun k hk q1 q2 => ?_⟩
        rcases Nat.lt_succ_iff_lt_or_eq.mp hk with q | q
        · exact j4 k q q1 q2
        · rw [q] at q1 q2 ⊢
          have : ¬ rAhead sp m j up := fun z => c ⟨⟨q1, q2⟩, decide_eq_true z⟩
          have : ¬ K m < K j := fun z => this ((hA m j (by omega) (by omega)).mpr z)
          omega
theorem rNxt_eq {st vo ti sp : Nat → Int32} {s t v : Int32} {up : Prop} [Decidable up] {K : Nat → Int} {la : Option Nat} {n : Nat} (hA : ∀ x y, x < n → y < n → (rAhead sp x y up ↔ K x < K y)) (hI : ∀ x y, x < n → y < n → K x = K y → x = y) {j : Nat} (hj : j < n) (h1 : rIn st vo ti j s t v) (h2 : rAhB sp la j up = true) (h3 : ∀ k, k < n → rIn st vo ti k s t v → rAhB sp la k up = true → K j ≤ K k) : rNxt st vo ti sp s t v up la n = some j := by
  obtain ⟨a1, a2⟩ := rNxt_spec st vo ti sp s t v up K la n hA n (Nat.le_refl n)
  cases ho : rNxt st vo ti sp s t v up la n with
  | none => exact absurd ⟨h1, h2⟩ (a2 ho j hj)
  | some i =>
    obtain ⟨i1, i2, i3, i4⟩ := a1 i ho
    have e1 := i4 j hj h1 h2
    have e2 := h3 i i1 i2 i3
    rw [hI i j i1 hj (by omega)]
theorem enum_ok {st vo ti sp : Nat → Int32} {s t v : Int32} {up : Prop} [Decidable up] {K : Nat → Int} {n z : Nat} (hA : ∀ x y, x < n → y < n → (rAhead sp x y up ↔ K x < K y)) (hI : ∀ x y, x < n → y < n → K x = K y → x = y) {M : Nat → Nat} (hM : ∀ i, i < z → M i < n ∧ rIn st vo ti (M i) s t v) (hs : ∀ p q, p < q → q < z → K (M p) < K (M q)) (ha : ∀ k, k < n → rIn st vo ti k s t v → ∃ p, p < z ∧ M p = k) {q : Nat} (hq : q < z) : rEnum st vo ti sp n s t v up M q (M q) := by
  refine ⟨rfl, fun i hi e => ?_, fun i hi => ?_⟩
  · have := hs i q hi hq
    rw [e] at this
    omega
  · refine rNxt_eq hA hI (hM i (by omega)).1 (hM i (by omega)).2 ?_ ?_
    · cases i with
      | zero => rfl
      | succ i => exact decide_eq_true ((hA _ _ (hM i (by omega)).1 (hM (i + 1) (by omega)).1).mpr (hs _ _ (Nat.lt_succ_self i) (by omega)))
    · intro k hk k1 k2
      obtain ⟨p, hp, e⟩ := ha k hk k1
      rw [← e]
      cases i with
      | zero =>
        rcases Nat.eq_zero_or_pos p with q0 | q0
        · rw [q0]; exact Int.le_refl _
        · exact Int.le_of_lt (hs 0 p q0 hp)
      | succ i =>
        have h4 : K (M i) < K k := (hA _ _ (hM i (by omega)).1 hk).mp (of_decide_eq_true k2)
        rw [← e] at h4
        have h5 : i < p := Nat.lt_of_not_le (fun z => by
          rcases Nat.lt_or_eq_of_le z with y | y
          · have := hs p i y (by omega); omega
          · rw [y] at h4; omega)
        rcases Nat.lt_or_eq_of_le (show i + 1 ≤ p by omega) with y | y
        · exact Int.le_of_lt (hs _ _ y hp)
        · rw [y]; exact Int.le_refl _
/-- a number for each head, by which they go -/
noncomputable def kNum (sp : Nat → Int32) (U : Prop) (x : Nat) : Int := @ite Int U (Classical.propDecidable U) ((sp x).toInt * 100 + x) (-(sp x).toInt * 100 + x)
theorem kNum_t {sp : Nat → Int32} {U : Prop} (h : U) (x : Nat) : kNum sp U x = (sp x).toInt * 100 + x := @if_pos U (Classical.propDecidable U) h Int _ _
theorem kNum_f {sp : Nat → Int32} {U : Prop} (h : ¬ U) (x : Nat) : kNum sp U x = -(sp x).toInt * 100 + x := @if_neg U (Classical.propDecidable U) h Int _ _
theorem kNum_ahead {sp : Nat → Int32} {U : Prop} {x y : Nat} (hx : x < 60) (hy : y < 60) (bx : spB (sp x)) (byy : spB (sp y)) : rAhead sp x y U ↔ kNum sp U x < kNum sp U y := by
  have h := spB_sub bx byy
  have h0 : sp x - sp y = 0 ↔ (sp x).toInt - (sp y).toInt = 0 := by
    rw [← h, ← Int32.toInt_zero, Int32.toInt_inj]
  have h1 : sp x - sp y < 0 ↔ (sp x).toInt - (sp y).toInt < 0 := by
    rw [Int32.lt_iff_toInt_lt, h, Int32.toInt_zero]
  unfold rAhead
  by_cases u : U
  · rw [kNum_t u, kNum_t u, h0, h1]
    simp only [u, true_iff]
    omega
  · rw [kNum_f u, kNum_f u, h0, h1]
    simp only [u, false_iff]
    omega
theorem kNum_inj {sp : Nat → Int32} {U : Prop} {x y : Nat} (hx : x < 60) (hy : y < 60) (h : kNum sp U x = kNum sp U y) : x = y := by
  by_cases u : U
  · rw [kNum_t u, kNum_t u] at h; omega
  · rw [kNum_f u, kNum_f u] at h; omega
theorem kNum_bef {sp : Nat → Int32} {U : Prop} {x y : Nat} (hx : x < 60) (h : y < x) : cBef U (sp x) (sp y) ↔ kNum sp U x < kNum sp U y := by
  unfold cBef
  by_cases u : U
  · rw [kNum_t u, kNum_t u, Int32.lt_iff_toInt_lt]
    simp only [u, true_and, not_true, false_and, or_false]
    omega
  · rw [kNum_f u, kNum_f u, Int32.lt_iff_toInt_lt, Int32.lt_iff_toInt_lt]
    simp only [u, false_and, not_false_iff, true_and, false_or]
    omega
theorem kNum_congr {sp sp' : Nat → Int32} {U U' : Prop} {x : Nat} (h : sp x = sp' x) (hU : U ↔ U') : kNum sp U x = kNum sp' U' x := by
  rw [propext hU]
  by_cases u : U'
  · rw [kNum_t u, kNum_t u, h]
  · rw [kNum_f u, kNum_f u, h]
