/-! PURE MATHEMATICS 4: what lies highest and lowest; one place laid -/
theorem Met_imp {l : Launch} {y : MethodName} {ws : List Cond} {rm : Room} {Pc : Array Value → State → Prop} {Qc Qc' : Array Value → State → Outcome → State → Prop} {mc ms : Nat} {free : Addr → Prop} (h : Met l y ws rm Pc Qc mc ms free) (f : ∀ a s o t, Qc a s o t → Qc' a s o t) : Met l y ws rm Pc Qc' mc ms free := by
  intro p e h1 h2 h3 s m args below h4 h5 h6 h7
  obtain ⟨n, o, w1, w2, w3, w4, w5⟩ := h p e h1 h2 h3 s m args below h4 h5 h6 h7
  exact ⟨n, o, w1, w2, w3, f _ _ _ _ w4, w5⟩
theorem rEnd_le {st vo ti sp : Nat → Int32} {s t v : Int32} (m : Nat) (b : Int) : (rEnd st vo ti sp s t v True m).toInt ≤ b ↔ -1000 ≤ b ∧ ∀ k, k < m → rIn st vo ti k s t v → (sp k).toInt ≤ b := by
  induction m with
  | zero =>
    rw [rEnd, if_pos trivial, show (-1000 : Int32).toInt = -1000 by decide]
    exact ⟨fun q => ⟨q, fun k hk => absurd hk (Nat.not_lt_zero k)⟩, fun q => q.1⟩
  | succ m ih =>
    by_cases c : rIn st vo ti m s t v
    · have e : rEnd st vo ti sp s t v True (m + 1) = mxI (rEnd st vo ti sp s t v True m) (sp m) := by
        by_cases w : rEnd st vo ti sp s t v True m < sp m
        · rw [mxI_t w, rEnd_s c (iff_tt trivial w)]
        · rw [mxI_f w, rEnd_o c (iff_tf trivial w)]
      rw [e, mxI_le, ih]
      constructor
      · rintro ⟨⟨q1, q2⟩, q3⟩
        refine ⟨q1, fun k hk hi => ?_⟩
        rcases Nat.lt_succ_iff_lt_or_eq.mp hk with q | q
        · exact q2 k q hi
        · rw [q]; exact q3
      · rintro ⟨q1, q2⟩
        exact ⟨⟨q1, fun k hk => q2 k (by omega)⟩, q2 m (Nat.lt_succ_self m) c⟩
    · rw [rEnd_n c, ih]
      constructor
      · rintro ⟨q1, q2⟩
        refine ⟨q1, fun k hk hi => ?_⟩
        rcases Nat.lt_succ_iff_lt_or_eq.mp hk with q | q
        · exact q2 k q hi
        · rw [q] at hi; exact absurd hi c
      · rintro ⟨q1, q2⟩
        exact ⟨q1, fun k hk => q2 k (by omega)⟩
theorem rEnd_ge {st vo ti sp : Nat → Int32} {s t v : Int32} (m : Nat) (b : Int) : b ≤ (rEnd st vo ti sp s t v False m).toInt ↔ b ≤ 1000 ∧ ∀ k, k < m → rIn st vo ti k s t v → b ≤ (sp k).toInt := by
  induction m with
  | zero =>
    rw [rEnd, if_neg (fun q => q), show (1000 : Int32).toInt = 1000 by decide]
    exact ⟨fun q => ⟨q, fun k hk => absurd hk (Nat.not_lt_zero k)⟩, fun q => q.1⟩
  | succ m ih =>
    by_cases c : rIn st vo ti m s t v
    · have e : rEnd st vo ti sp s t v False (m + 1) = mnI (rEnd st vo ti sp s t v False m) (sp m) := by
        by_cases w : rEnd st vo ti sp s t v False m < sp m
        · rw [rEnd_o c (iff_ft (fun z => z) w), mnI_f (fun z => by rw [Int32.lt_iff_toInt_lt] at z w; omega)]
        · rw [rEnd_s c (iff_ff (fun z => z) w)]
          by_cases y : sp m < rEnd st vo ti sp s t v False m
          · rw [mnI_t y]
          · rw [mnI_f y]
            apply Int32.toInt_inj.mp
            rw [Int32.lt_iff_toInt_lt] at w y
            omega
      rw [e, mnI_le, ih]
      constructor
      · rintro ⟨⟨q1, q2⟩, q3⟩
        refine ⟨q1, fun k hk hi => ?_⟩
        rcases Nat.lt_succ_iff_lt_or_eq.mp hk with q | q
        · exact q2 k q hi
        · rw [q]; exact q3
      · rintro ⟨q1, q2⟩
        exact ⟨⟨q1, fun k hk => q2 k (by omega)⟩, q2 m (Nat.lt_succ_self m) c⟩
    · rw [rEnd_n c, ih]
      constructor
      · rintro ⟨q1, q2⟩
        refine ⟨q1, fun k hk hi => ?_⟩
        rcases Nat.lt_succ_iff_lt_or_eq.mp hk with q | q
        · exact q2 k q hi
        · rw [q] at hi; exact absurd hi c
      · rintro ⟨q1, q2⟩
        exact ⟨q1, fun k hk => q2 k (by omega)⟩
theorem rEnd_bd {st vo ti sp : Nat → Int32} {s t v : Int32} {n : Nat} (hb : ∀ k, k < n → spB (sp k)) : (-1000 ≤ (rEnd st vo ti sp s t v True n).toInt ∧ (rEnd st vo ti sp s t v True n).toInt ≤ 1000) ∧ (-1000 ≤ (rEnd st vo ti sp s t v False n).toInt ∧ (rEnd st vo ti sp s t v False n).toInt ≤ 1000) := by
  refine ⟨⟨((rEnd_le n _).mp (Int.le_refl _)).1, (rEnd_le n _).mpr ⟨by omega, fun k hk _ => ?_⟩⟩, ⟨(rEnd_ge n _).mpr ⟨by omega, fun k hk _ => ?_⟩, ((rEnd_ge n _).mp (Int.le_refl _)).1⟩⟩
  · have := (hb k hk).2; omega
  · have := (hb k hk).1; omega
theorem add_bd {x : Int32} {c : Int32} (h1 : -100000 ≤ x.toInt) (h2 : x.toInt ≤ 100000) (h3 : -100000 ≤ c.toInt) (h4 : c.toInt ≤ 100000) : (x + c).toInt = x.toInt + c.toInt := by
  rw [Int32.toInt_add]
  exact Int.bmod_eq_of_le (by omega) (by omega)
theorem sub_bd {x : Int32} {c : Int32} (h1 : -100000 ≤ x.toInt) (h2 : x.toInt ≤ 100000) (h3 : -100000 ≤ c.toInt) (h4 : c.toInt ≤ 100000) : (x - c).toInt = x.toInt - c.toInt := by
  rw [Int32.toInt_sub]
  exact Int.bmod_eq_of_le (by omega) (by omega)
theorem t7 : (7 : Int32).toInt = 7 := by decide
theorem t4 : (4 : Int32).toInt = 4 := by decide
theorem t8 : (8 : Int32).toInt = 8 := by decide
theorem rHigh_le {st vo ti sp he : Nat → Int32} {n : Nat} {s t : Int32} (m : Nat) (b : Int) : (rHigh st vo ti sp he n s t m).toInt ≤ b ↔ 8 ≤ b ∧ ∀ k, k < m → rAt st ti k s t → (sp k).toInt ≤ b ∧ (¬ he k = 0 ∧ rUp st vo ti sp n s t (vo k) → (rEnd st vo ti sp s t (vo k) True n + 7).toInt ≤ b) := by
  induction m with
  | zero =>
    rw [rHigh, t8]
    exact ⟨fun q => ⟨q, fun k hk => absurd hk (Nat.not_lt_zero k)⟩, fun q => q.1⟩
  | succ m ih =>
    by_cases c : rAt st ti m s t
    · have key : ∀ P : Prop, (8 ≤ b ∧ ∀ k, k < m → rAt st ti k s t → (sp k).toInt ≤ b ∧ (¬ he k = 0 ∧ rUp st vo ti sp n s t (vo k) → (rEnd st vo ti sp s t (vo k) True n + 7).toInt ≤ b)) → ((sp m).toInt ≤ b ∧ (¬ he m = 0 ∧ rUp st vo ti sp n s t (vo m) → (rEnd st vo ti sp s t (vo m) True n + 7).toInt ≤ b)) → (8 ≤ b ∧ ∀ k, k < m + 1 → rAt st ti k s t → (sp k).toInt ≤ b ∧ (¬ he k = 0 ∧ rUp st vo ti sp n s t (vo k) → (rEnd st vo ti sp s t (vo k) True n + 7).toInt ≤ b)) := by
        intro _ q1 q2
        refine ⟨q1.1, fun k hk hi => ?_⟩
        rcases Nat.lt_succ_iff_lt_or_eq.mp hk with q | q
        · exact q1.2 k q hi
        · rw [q]; exact q2
      by_cases d : ¬ he m = 0 ∧ rUp st vo ti sp n (st m) (ti m) (vo m)
      · rw [rHigh_2 c d, mxI_le, mxI_le, ih]
        rw [c.1, c.2] at d
        constructor
        · rintro ⟨⟨q1, q2⟩, q3⟩; exact key True q1 ⟨q2, fun _ => q3⟩
        · rintro ⟨q1, q2⟩; have := q2 m (Nat.lt_succ_self m) c; exact ⟨⟨⟨q1, fun k hk => q2 k (by omega)⟩, this.1⟩, this.2 d⟩
      · rw [rHigh_1 c d, mxI_le, ih]
        rw [c.1, c.2] at d
        constructor
        · rintro ⟨q1, q2⟩; exact key True q1 ⟨q2, fun w => absurd w d⟩
        · rintro ⟨q1, q2⟩; have := q2 m (Nat.lt_succ_self m) c; exact ⟨⟨q1, fun k hk => q2 k (by omega)⟩, this.1⟩
    · rw [rHigh_n c, ih]
      constructor
      · rintro ⟨q1, q2⟩
        refine ⟨q1, fun k hk hi => ?_⟩
        rcases Nat.lt_succ_iff_lt_or_eq.mp hk with q | q
        · exact q2 k q hi
        · rw [q] at hi; exact absurd hi c
      · rintro ⟨q1, q2⟩
        exact ⟨q1, fun k hk => q2 k (by omega)⟩
theorem rLow_ge {st vo ti sp he : Nat → Int32} {n : Nat} {s t : Int32} (m : Nat) (b : Int) : b ≤ (rLow st vo ti sp he n s t m).toInt ↔ b ≤ 0 ∧ ∀ k, k < m → rAt st ti k s t → b ≤ (sp k).toInt ∧ (¬ he k = 0 ∧ ¬ rUp st vo ti sp n s t (vo k) → b ≤ (rEnd st vo ti sp s t (vo k) False n - 7).toInt) := by
  induction m with
  | zero =>
    rw [rLow, Int32.toInt_zero]
    exact ⟨fun q => ⟨q, fun k hk => absurd hk (Nat.not_lt_zero k)⟩, fun q => q.1⟩
  | succ m ih =>
    by_cases c : rAt st ti m s t
    · have key : ∀ P : Prop, (b ≤ 0 ∧ ∀ k, k < m → rAt st ti k s t → b ≤ (sp k).toInt ∧ (¬ he k = 0 ∧ ¬ rUp st vo ti sp n s t (vo k) → b ≤ (rEnd st vo ti sp s t (vo k) False n - 7).toInt)) → (b ≤ (sp m).toInt ∧ (¬ he m = 0 ∧ ¬ rUp st vo ti sp n s t (vo m) → b ≤ (rEnd st vo ti sp s t (vo m) False n - 7).toInt)) → (b ≤ 0 ∧ ∀ k, k < m + 1 → rAt st ti k s t → b ≤ (sp k).toInt ∧ (¬ he k = 0 ∧ ¬ rUp st vo ti sp n s t (vo k) → b ≤ (rEnd st vo ti sp s t (vo k) False n - 7).toInt)) := by
        intro _ q1 q2
        refine ⟨q1.1, fun k hk hi => ?_⟩
        rcases Nat.lt_succ_iff_lt_or_eq.mp hk with q | q
        · exact q1.2 k q hi
        · rw [q]; exact q2
      by_cases d : ¬ he m = 0 ∧ ¬ rUp st vo ti sp n (st m) (ti m) (vo m)
      · rw [rLow_2 c d, mnI_le, mnI_le, ih]
        rw [c.1, c.2] at d
        constructor
        · rintro ⟨⟨q1, q2⟩, q3⟩; exact key True q1 ⟨q2, fun _ => q3⟩
        · rintro ⟨q1, q2⟩; have := q2 m (Nat.lt_succ_self m) c; exact ⟨⟨⟨q1, fun k hk => q2 k (by omega)⟩, this.1⟩, this.2 d⟩
      · rw [rLow_1 c d, mnI_le, ih]
        rw [c.1, c.2] at d
        constructor
        · rintro ⟨q1, q2⟩; exact key True q1 ⟨q2, fun w => absurd w d⟩
        · rintro ⟨q1, q2⟩; have := q2 m (Nat.lt_succ_self m) c; exact ⟨⟨q1, fun k hk => q2 k (by omega)⟩, this.1⟩
    · rw [rLow_n c, ih]
      constructor
      · rintro ⟨q1, q2⟩
        refine ⟨q1, fun k hk hi => ?_⟩
        rcases Nat.lt_succ_iff_lt_or_eq.mp hk with q | q
        · exact q2 k q hi
        · rw [q] at hi; exact absurd hi c
      · rintro ⟨q1, q2⟩
        exact ⟨q1, fun k hk => q2 k (by omega)⟩
theorem gO_iff {st vo ti he : Nat → Int32} {s t v : Int32} (n : Nat) : gO st vo ti he s t v n ↔ ∀ k, k < n → rIn st vo ti k s t v → he k = 0 := by
  induction n with
  | zero => exact iff_tt trivial (fun k hk => absurd hk (Nat.not_lt_zero k))
  | succ n ih =>
    by_cases c : rIn st vo ti n s t v
    · rw [gO_t c, ih]
      constructor
      · rintro ⟨q1, q2⟩ k hk hi
        rcases Nat.lt_succ_iff_lt_or_eq.mp hk with q | q
        · exact q1 k q hi
        · rw [q]; exact q2
      · intro q; exact ⟨fun k hk => q k (by omega), q n (Nat.lt_succ_self n) c⟩
    · rw [gO_f c, ih]
      constructor
      · intro q1 k hk hi
        rcases Nat.lt_succ_iff_lt_or_eq.mp hk with q | q
        · exact q1 k q hi
        · rw [q] at hi; exact absurd hi c
      · intro q k hk; exact q k (by omega)
theorem rMany_pos {st vo ti : Nat → Int32} {s t v : Int32} (n : Nat) : 0 < rMany st vo ti s t v n ↔ ∃ k, k < n ∧ rIn st vo ti k s t v := by
  induction n with
  | zero => exact iff_ff (Nat.lt_irrefl 0) (fun ⟨k, hk, _⟩ => absurd hk (Nat.not_lt_zero k))
  | succ n ih =>
    by_cases c : rIn st vo ti n s t v
    · rw [rMany_t c]; exact iff_tt (Nat.succ_pos _) ⟨n, Nat.lt_succ_self n, c⟩
    · rw [rMany_f c, ih]
      constructor
      · rintro ⟨k, hk, hi⟩; exact ⟨k, by omega, hi⟩
      · rintro ⟨k, hk, hi⟩
        rcases Nat.lt_succ_iff_lt_or_eq.mp hk with q | q
        · exact ⟨k, q, hi⟩
        · rw [q] at hi; exact absurd hi c
theorem rTot_all {st vo ti : Nat → Int32} {s t : Int32} (n : Nat) (hvo : ∀ k, k < n → vo k = nI 0 ∨ vo k = nI 1 ∨ vo k = nI 2) : rTot st ti s t n = rMany st vo ti s t (nI 0) n + rMany st vo ti s t (nI 1) n + rMany st vo ti s t (nI 2) n := by
  induction n with
  | zero => rfl
  | succ n ih =>
    have ih := ih (fun k hk => hvo k (by omega))
    have e01 : ¬ nI 0 = nI 1 := by decide
    have e02 : ¬ nI 0 = nI 2 := by decide
    have e12 : ¬ nI 1 = nI 2 := by decide
    by_cases c : rAt st ti n s t
    · rw [rTot_t c]
      rcases hvo n (Nat.lt_succ_self n) with e | e | e
      · rw [rMany_t (v := nI 0) ⟨c, e⟩, rMany_f (v := nI 1) (fun q => e01 (e.symm.trans q.2)), rMany_f (v := nI 2) (fun q => e02 (e.symm.trans q.2))]; omega
      · rw [rMany_t (v := nI 1) ⟨c, e⟩, rMany_f (v := nI 0) (fun q => e01 (q.2.symm.trans e)), rMany_f (v := nI 2) (fun q => e12 (e.symm.trans q.2))]; omega
      · rw [rMany_t (v := nI 2) ⟨c, e⟩, rMany_f (v := nI 0) (fun q => e02 (q.2.symm.trans e)), rMany_f (v := nI 1) (fun q => e12 (q.2.symm.trans e))]; omega
    · rw [rTot_f c, rMany_f (v := nI 0) (fun q => c q.1), rMany_f (v := nI 1) (fun q => c q.1), rMany_f (v := nI 2) (fun q => c q.1)]
      exact ih
theorem cI_le {P : Prop} {x y : Int32} {b : Int} : (cI P x y).toInt ≤ b ↔ (P → x.toInt ≤ b) ∧ (¬ P → y.toInt ≤ b) := by
  by_cases h : P
  · rw [cI_t h]; exact ⟨fun q => ⟨fun _ => q, fun w => absurd h w⟩, fun q => q.1 h⟩
  · rw [cI_f h]; exact ⟨fun q => ⟨fun w => absurd w h, fun _ => q⟩, fun q => q.2 h⟩
theorem cI_ge {P : Prop} {x y : Int32} {b : Int} : b ≤ (cI P x y).toInt ↔ (P → b ≤ x.toInt) ∧ (¬ P → b ≤ y.toInt) := by
  by_cases h : P
  · rw [cI_t h]; exact ⟨fun q => ⟨fun _ => q, fun w => absurd h w⟩, fun q => q.1 h⟩
  · rw [cI_f h]; exact ⟨fun q => ⟨fun w => absurd w h, fun _ => q⟩, fun q => q.2 h⟩
/-- what one chord reaches: class and reference -/
theorem reach_hi {st vo ti sp he : Nat → Int32} {n : Nat} {s t v : Int32} (hb : ∀ k, k < n → spB (sp k)) {U O : Prop} {gh : Int32} (hU : U ↔ rUp st vo ti sp n s t v) (hO : O ↔ ∀ k, k < n → rIn st vo ti k s t v → he k = 0) (hgh : gh = rEnd st vo ti sp s t v True n) {b : Int} (h8 : 8 ≤ b) : (cI (U ∧ ¬ O) (mxI (gh + 7) 4) gh).toInt ≤ b ↔ ∀ k, k < n → rIn st vo ti k s t v → (sp k).toInt ≤ b ∧ (¬ he k = 0 ∧ rUp st vo ti sp n s t (vo k) → (rEnd st vo ti sp s t (vo k) True n + 7).toInt ≤ b) := by
  have hE := rEnd_bd (st := st) (vo := vo) (ti := ti) (s := s) (t := t) (v := v) hb
  have h7 := add_bd (x := rEnd st vo ti sp s t v True n) (c := 7) (by omega) (by omega) (by decide) (by decide)
  rw [t7] at h7
  rw [cI_le, mxI_le, t4, hgh]
  constructor
  · rintro ⟨q1, q2⟩ k hk hi
    have hle : (rEnd st vo ti sp s t v True n).toInt ≤ b := by
      by_cases c : U ∧ ¬ O
      · have := (q1 c).1; omega
      · exact q2 c
    refine ⟨((rEnd_le n b).mp hle).2 k hk hi, fun w => ?_⟩
    rw [hi.2] at w ⊢
    exact (q1 ⟨hU.mpr w.2, fun z => w.1 (hO.mp z k hk hi)⟩).1
  · intro q
    have hle : (rEnd st vo ti sp s t v True n).toInt ≤ b := (rEnd_le n b).mpr ⟨by omega, fun k hk hi => (q k hk hi).1⟩
    refine ⟨fun c => ⟨?_, by omega⟩, fun _ => hle⟩
    obtain ⟨k, hk⟩ := Classical.not_forall.mp (fun z => c.2 (hO.mpr z))
    have hk2 : k < n ∧ rIn st vo ti k s t v ∧ ¬ he k = 0 := by
      refine ⟨Classical.not_not.mp (fun z => hk (fun w => absurd w z)), Classical.not_not.mp (fun z => hk (fun _ w => absurd w z)), fun z => hk (fun _ _ => z)⟩
    have := (q k hk2.1 hk2.2.1).2 ⟨hk2.2.2, by rw [hk2.2.1.2]; exact hU.mp c.1⟩
    rw [hk2.2.1.2] at this
    exact this
theorem reach_lo {st vo ti sp he : Nat → Int32} {n : Nat} {s t v : Int32} (hb : ∀ k, k < n → spB (sp k)) {U O : Prop} {gl : Int32} (hU : U ↔ rUp st vo ti sp n s t v) (hO : O ↔ ∀ k, k < n → rIn st vo ti k s t v → he k = 0) (hgl : gl = rEnd st vo ti sp s t v False n) {b : Int} (h8 : b ≤ 0) : b ≤ (cI (¬ U ∧ ¬ O) (mnI (gl - 7) 4) gl).toInt ↔ ∀ k, k < n → rIn st vo ti k s t v → b ≤ (sp k).toInt ∧ (¬ he k = 0 ∧ ¬ rUp st vo ti sp n s t (vo k) → b ≤ (rEnd st vo ti sp s t (vo k) False n - 7).toInt) := by
  have hE := rEnd_bd (st := st) (vo := vo) (ti := ti) (s := s) (t := t) (v := v) hb
  have h7 := sub_bd (x := rEnd st vo ti sp s t v False n) (c := 7) (by omega) (by omega) (by decide) (by decide)
  rw [t7] at h7
  rw [cI_ge, mnI_le, t4, hgl]
  constructor
  · rintro ⟨q1, q2⟩ k hk hi
    have hle : b ≤ (rEnd st vo ti sp s t v False n).toInt := by
      by_cases c : ¬ U ∧ ¬ O
      · have := (q1 c).1; omega
      · exact q2 c
    refine ⟨((rEnd_ge n b).mp hle).2 k hk hi, fun w => ?_⟩
    rw [hi.2] at w ⊢
    exact (q1 ⟨fun z => w.2 (hU.mp z), fun z => w.1 (hO.mp z k hk hi)⟩).1
  · intro q
    have hle : b ≤ (rEnd st vo ti sp s t v False n).toInt := (rEnd_ge n b).mpr ⟨by omega, fun k hk hi => (q k hk hi).1⟩
    refine ⟨fun c => ⟨?_, by omega⟩, fun _ => hle⟩
    obtain ⟨k, hk⟩ := Classical.not_forall.mp (fun z => c.2 (hO.mpr z))
    have hk2 : k < n ∧ rIn st vo ti k s t v ∧ ¬ he k = 0 := by
      refine ⟨Classical.not_not.mp (fun z => hk (fun w => absurd w z)), Classical.not_not.mp (fun z => hk (fun _ w => absurd w z)), fun z => hk (fun _ _ => z)⟩
    have := (q k hk2.1 hk2.2.1).2 ⟨hk2.2.2, by rw [hk2.2.1.2]; exact fun z => c.1 (hU.mpr z)⟩
    rw [hk2.2.1.2] at this
    exact this
theorem row3_le {k7 : Nat → Nat → Int32} {gz : Nat → Nat} {re : Nat → Int32} {ce : Nat} (h : ∀ v, v < 3 → k7 (v + 1) = if 0 < gz v then upd (k7 v) ce (mxI (k7 v ce) (re v)) else k7 v) (b : Int) : (k7 3 ce).toInt ≤ b ↔ (k7 0 ce).toInt ≤ b ∧ ∀ v, v < 3 → 0 < gz v → (re v).toInt ≤ b := by
  have st : ∀ v, v < 3 → ((k7 (v + 1) ce).toInt ≤ b ↔ (k7 v ce).toInt ≤ b ∧ (0 < gz v → (re v).toInt ≤ b)) := by
    intro v hv
    rw [h v hv]
    by_cases c : 0 < gz v
    · rw [if_pos c, pk_us, mxI_le]; exact ⟨fun q => ⟨q.1, fun _ => q.2⟩, fun q => ⟨q.1, q.2 c⟩⟩
    · rw [if_neg c]; exact ⟨fun q => ⟨q, fun w => absurd w c⟩, fun q => q.1⟩
  rw [st 2 (by omega), st 1 (by omega), st 0 (by omega)]
  constructor
  · rintro ⟨⟨⟨q0, q1⟩, q2⟩, q3⟩
    refine ⟨q0, fun v hv => ?_⟩
    rcases (show v = 0 ∨ v = 1 ∨ v = 2 by omega) with rfl | rfl | rfl
    · exact q1
    · exact q2
    · exact q3
  · rintro ⟨q0, q⟩
    exact ⟨⟨⟨q0, q 0 (by omega)⟩, q 1 (by omega)⟩, q 2 (by omega)⟩
theorem row3_ge {k7 : Nat → Nat → Int32} {gz : Nat → Nat} {re : Nat → Int32} {ce : Nat} (h : ∀ v, v < 3 → k7 (v + 1) = if 0 < gz v then upd (k7 v) ce (mnI (k7 v ce) (re v)) else k7 v) (b : Int) : b ≤ (k7 3 ce).toInt ↔ b ≤ (k7 0 ce).toInt ∧ ∀ v, v < 3 → 0 < gz v → b ≤ (re v).toInt := by
  have st : ∀ v, v < 3 → (b ≤ (k7 (v + 1) ce).toInt ↔ b ≤ (k7 v ce).toInt ∧ (0 < gz v → b ≤ (re v).toInt)) := by
    intro v hv
    rw [h v hv]
    by_cases c : 0 < gz v
    · rw [if_pos c, pk_us, mnI_le]; exact ⟨fun q => ⟨q.1, fun _ => q.2⟩, fun q => ⟨q.1, q.2 c⟩⟩
    · rw [if_neg c]; exact ⟨fun q => ⟨q, fun w => absurd w c⟩, fun q => q.1⟩
  rw [st 2 (by omega), st 1 (by omega), st 0 (by omega)]
  constructor
  · rintro ⟨⟨⟨q0, q1⟩, q2⟩, q3⟩
    refine ⟨q0, fun v hv => ?_⟩
    rcases (show v = 0 ∨ v = 1 ∨ v = 2 by omega) with rfl | rfl | rfl
    · exact q1
    · exact q2
    · exact q3
  · rintro ⟨q0, q⟩
    exact ⟨⟨⟨q0, q 0 (by omega)⟩, q 1 (by omega)⟩, q 2 (by omega)⟩
theorem row3_out {k7 : Nat → Nat → Int32} {gz : Nat → Nat} {re : Nat → Nat → Int32 → Int32} {ce : Nat} (h : ∀ v, v < 3 → k7 (v + 1) = if 0 < gz v then upd (k7 v) ce (re v v (k7 v ce)) else k7 v) {x : Nat} (hx : ¬ x = ce) : k7 3 x = k7 0 x := by
  have st : ∀ v, v < 3 → k7 (v + 1) x = k7 v x := by
    intro v hv
    rw [h v hv]
    split
    · exact pk_un hx
    · rfl
  rw [st 2 (by omega), st 1 (by omega), st 0 (by omega)]
