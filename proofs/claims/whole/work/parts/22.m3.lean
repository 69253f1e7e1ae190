/-! PURE MATHEMATICS 3: signs -/
theorem gB_spec (st ti si : Nat → Int32) (s t : Int32) (M0 : Nat → Nat) (n : Nat) :
    (∀ j, j < rLeft st ti si s t n → gB st ti si s t M0 n j < n ∧ rAt st ti (gB st ti si s t M0 n j) s t ∧ ¬ si (gB st ti si s t M0 n j) = 3) ∧ (∀ i j, i < j → j < rLeft st ti si s t n → gB st ti si s t M0 n i < gB st ti si s t M0 n j) ∧ (∀ k, k < n → rAt st ti k s t → ¬ si k = 3 → ∃ j, j < rLeft st ti si s t n ∧ gB st ti si s t M0 n j = k) := by
  induction n with
  | zero => exact ⟨fun j hj => absurd hj (Nat.not_lt_zero j), fun i j _ hj => absurd hj (Nat.not_lt_zero j), fun k hk => absurd hk (Nat.not_lt_zero k)⟩
  | succ n ih =>
    obtain ⟨h1, h2, h3⟩ := ih
    by_cases c : rAt st ti n s t ∧ ¬ si n = 3
    · rw [rLeft_t2 c, gB_t c]
      refine ⟨fun j hj => ?_, fun i j hij hj => ?_, fun k hk ha hs => ?_⟩
      · by_cases q : j = rLeft st ti si s t n
        · rw [q, va_up_self]; exact ⟨Nat.lt_succ_self n, c⟩
        · rw [va_up_ne _ _ q]; have := h1 j (by omega); exact ⟨by omega, this.2⟩
      · rw [va_up_ne _ _ (show i ≠ rLeft st ti si s t n by omega)]
        by_cases q : j = rLeft st ti si s t n
        · rw [q, va_up_self]; exact (h1 i (by omega)).1
        · rw [va_up_ne _ _ q]; exact h2 i j hij (by omega)
      · rcases Nat.lt_succ_iff_lt_or_eq.mp hk with q | q
        · obtain ⟨j, hj, e⟩ := h3 k q ha hs
          exact ⟨j, by omega, by rw [va_up_ne _ _ (by omega)]; exact e⟩
        · exact ⟨_, Nat.lt_succ_self _, by rw [va_up_self, q]⟩
    · rw [rLeft_f2 c, gB_f c]
      refine ⟨fun j hj => ⟨Nat.lt_succ_of_lt (h1 j hj).1, (h1 j hj).2⟩, h2, fun k hk ha hs => ?_⟩
      rcases Nat.lt_succ_iff_lt_or_eq.mp hk with q | q
      · exact h3 k q ha hs
      · rw [q] at ha hs; exact absurd ⟨ha, hs⟩ c
theorem gB_60 {st ti si : Nat → Int32} {s t : Int32} {M0 : Nat → Nat} {n : Nat} (hn : n ≤ 60) (h : ∀ j, M0 j < 60) (j : Nat) : gB st ti si s t M0 n j < 60 := by
  induction n with
  | zero => exact h j
  | succ n ih =>
    unfold gB
    split
    · unfold va_up
      split
      · omega
      · exact ih (by omega)
    · exact ih (by omega)
theorem oPick_congr {sp : Nat → Int32} {C Mb Mb' : Nat → Nat} {ev : Prop} [Decidable ev] {z : Nat} (h : ∀ i, i < z → Mb i = Mb' i) : oPick sp C Mb ev z = oPick sp C Mb' ev z := by
  induction z with
  | zero => rfl
  | succ z ih => rw [oPick, oPick, ih (fun i hi => h i (by omega)), h z (Nat.lt_succ_self z)]
theorem rBet_congr {sp sp' : Nat → Int32} {ev : Prop} [Decidable ev] {k : Nat} {o : Option Nat} (hk : sp k = sp' k) (ho : ∀ j, o = some j → sp j = sp' j) : rBet sp ev k o = rBet sp' ev k o := by
  cases o with
  | none => rfl
  | some j => unfold rBet; dsimp only; rw [hk, ho j rfl]
theorem oPick_rPick {st ti sp l1 si sc : Nat → Int32} {s t : Int32} {n : Nat} (h : ∀ k, k < n → sp k = l1 k) {C M0 : Nat → Nat} (hC : ∀ k, k < n → rAt st ti k s t → (sc k = 0 ↔ C k = 0)) (ev : Prop) [Decidable ev] (m : Nat) (hm : m ≤ n) : oPick l1 C (gB st ti si s t M0 m) ev (rLeft st ti si s t m) = rPick st ti sp si sc s t ev m := by
  induction m with
  | zero => rfl
  | succ m ih =>
    have ih := ih (by omega)
    rw [rPick]
    by_cases c : rAt st ti m s t ∧ ¬ si m = 3
    · rw [rLeft_t2 c, gB_t c, oPick]
      have e1 : oPick l1 C (va_up (gB st ti si s t M0 m) (rLeft st ti si s t m) m) ev (rLeft st ti si s t m) = rPick st ti sp si sc s t ev m := by
        rw [← ih]
        exact oPick_congr (fun i hi => va_up_ne _ _ (by omega))
      rw [e1, va_up_self, rBet_congr (sp' := sp) (h m (by omega)).symm (fun j hj => (h j (by have := (rPick_lt hj).1; omega)).symm)]
      by_cases d : C m = 0 ∧ rBet sp ev m (rPick st ti sp si sc s t ev m) = true
      · rw [if_pos d, if_pos ⟨⟨c.1, c.2, (hC m (by omega) c.1).mpr d.1⟩, d.2⟩]
      · rw [if_neg d, if_neg (fun q => d ⟨(hC m (by omega) c.1).mp q.1.2.2, q.2⟩)]
    · rw [rLeft_f2 c, gB_f c, if_neg (fun q => c ⟨q.1.1, q.1.2.1⟩)]
      exact ih
theorem oPick_none {sp : Nat → Int32} {C Mb : Nat → Nat} {ev : Prop} [Decidable ev] {z : Nat} (h : oPick sp C Mb ev z = none) : ∀ j, j < z → ¬ C (Mb j) = 0 := by
  induction z with
  | zero => exact fun j hj => absurd hj (Nat.not_lt_zero j)
  | succ z ih =>
    rw [oPick] at h
    by_cases c : C (Mb z) = 0 ∧ rBet sp ev (Mb z) (oPick sp C Mb ev z) = true
    · rw [if_pos c] at h; cases h
    · rw [if_neg c] at h
      intro j hj
      rcases Nat.lt_succ_iff_lt_or_eq.mp hj with q | q
      · exact ih h j q
      · rw [q]; intro e; exact c ⟨e, by rw [h]; rfl⟩
theorem oPick_0 {sp : Nat → Int32} {C Mb : Nat → Nat} {ev : Prop} [Decidable ev] {z x : Nat} (h : oPick sp C Mb ev z = some x) : (∃ j, j < z ∧ x = Mb j) ∧ C x = 0 := by
  refine ⟨oPick_lt h, ?_⟩
  induction z with
  | zero => cases h
  | succ z ih =>
    rw [oPick] at h
    by_cases c : C (Mb z) = 0 ∧ rBet sp ev (Mb z) (oPick sp C Mb ev z) = true
    · rw [if_pos c] at h; cases h; exact c.1
    · rw [if_neg c] at h; exact ih h
def uCnt (C Mb : Nat → Nat) : Nat → Nat
  | 0 => 0
  | j + 1 => uCnt C Mb j + (if C (Mb j) = 0 then 1 else 0)
theorem uCnt_0 {C Mb : Nat → Nat} {z : Nat} (h : ∀ j, j < z → ¬ C (Mb j) = 0) : uCnt C Mb z = 0 := by
  induction z with
  | zero => rfl
  | succ z ih => rw [uCnt, ih (fun j hj => h j (by omega)), if_neg (h z (Nat.lt_succ_self z))]
theorem uCnt_z {C Mb : Nat → Nat} {z : Nat} (h : ∀ j, j < z → C (Mb j) = 0) : uCnt C Mb z = z := by
  induction z with
  | zero => rfl
  | succ z ih => rw [uCnt, ih (fun j hj => h j (by omega)), if_pos (h z (Nat.lt_succ_self z))]
theorem uCnt_up {C Mb : Nat → Nat} {j0 rr : Nat} {z : Nat} (hm : ∀ i j, i < j → j < z → Mb i < Mb j) (h0 : C (Mb j0) = 0) (hr : 0 < rr) (hj : j0 < z) : uCnt (va_up C (Mb j0) rr) Mb z + 1 = uCnt C Mb z := by
  have key : ∀ m, m ≤ z → uCnt (va_up C (Mb j0) rr) Mb m + (if j0 < m then 1 else 0) = uCnt C Mb m := by
    intro m
    induction m with
    | zero => intro _; rfl
    | succ m ih =>
      intro hmz
      have ih := ih (by omega)
      unfold uCnt
      by_cases c : m = j0
      · rw [c] at ih ⊢
        rw [va_up_self, if_neg (show ¬ rr = 0 by omega), if_pos h0, if_pos (Nat.lt_succ_self j0)]
        rw [if_neg (Nat.lt_irrefl j0)] at ih
        omega
      · have hne : Mb m ≠ Mb j0 := by
          rcases Nat.lt_or_gt_of_ne c with q | q
          · have := hm m j0 q hj; omega
          · have := hm j0 m q (by omega); omega
        rw [va_up_ne _ _ hne]
        by_cases d : j0 < m
        · rw [if_pos d] at ih; rw [if_pos (show j0 < m + 1 by omega)]; omega
        · rw [if_neg d] at ih; rw [if_neg (show ¬ j0 < m + 1 by omega)]; omega
  have := key z (Nat.le_refl z)
  rw [if_pos hj] at this
  exact this
theorem rTk_iff {sp : Nat → Int32} {C Mb : Nat → Nat} {x i : Nat} {T : Nat → Nat} {j : Nat} (hT : T j ≤ i) (z : Nat) : rTk sp C Mb x (i + 1) T z j = i + 1 ↔ ∃ q, q < z ∧ absI (sp (Mb q) - sp x) < 6 ∧ C (Mb q) = j := by
  induction z with
  | zero =>
    rw [rTk]
    exact iff_ff (by omega) (fun ⟨q, hq, _⟩ => absurd hq (Nat.not_lt_zero q))
  | succ z ih =>
    unfold rTk
    by_cases c : absI (sp (Mb z) - sp x) < 6
    · rw [if_pos c]
      by_cases d : j = C (Mb z)
      · rw [d, va_up_self]
        exact iff_tt rfl ⟨z, Nat.lt_succ_self z, c, rfl⟩
      · rw [va_up_ne _ _ d, ih]
        constructor
        · rintro ⟨q, q1, q2, q3⟩; exact ⟨q, by omega, q2, q3⟩
        · rintro ⟨q, q1, q2, q3⟩
          exact ⟨q, Nat.lt_of_le_of_ne (Nat.le_of_lt_succ q1) (fun e => d (by rw [← q3, e])), q2, q3⟩
    · rw [if_neg c, ih]
      constructor
      · rintro ⟨q, q1, q2, q3⟩; exact ⟨q, by omega, q2, q3⟩
      · rintro ⟨q, q1, q2, q3⟩
        exact ⟨q, Nat.lt_of_le_of_ne (Nat.le_of_lt_succ q1) (fun e => c (by rw [← e]; exact q2)), q2, q3⟩
def sStep (_ : Nat) (C : Nat → Nat) (a : Nat × Nat) : Nat → Nat := va_up C a.1 a.2
theorem cSgn_fold (C : Nat → Nat) (f : Nat → Nat × Nat) (i : Nat) : cSgn C (fun i => (f i).1) (fun i => (f i).2) i = foldA sStep C f i := by
  induction i with
  | zero => rfl
  | succ i ih =>
    unfold cSgn foldA
    rw [ih]
    rfl
/-- what one turn of the signs gives, for class and reference -/
def sGood (st ti l1 si : Nat → Int32) (s t : Int32) (n : Nat) (Mb : Nat → Nat) (zs : Nat) (i : Nat) (C : Nat → Nat) (a : Nat × Nat) : Prop :=
  oPick l1 C Mb (i % 2 = 0) zs = some a.1 ∧ (∀ T : Nat → Nat, (∀ j, j < 61 → T j ≤ i) → cColFor l1 si C Mb zs a.1 (i + 1) T a.2) ∧ 0 < a.2 ∧ a.2 ≤ i + 1 ∧
  ∀ sp sc : Nat → Int32, (∀ k, k < n → sp k = l1 k) → (∀ k, k < n → rAt st ti k s t → sc k = nI (C k)) → rPick st ti sp si sc s t (i % 2 = 0) n = some a.1 ∧ rColFor st ti sp si sc n s t a.1 (nI a.2)
theorem signs_ex {st ti l1 si : Nat → Int32} {s t : Int32} {n : Nat} (hn : n ≤ 60) (hb : ∀ k, k < n → spB (l1 k)) {C M0 : Nat → Nat} (h0 : ∀ k, k < n → rAt st ti k s t → C k = 0) :
    ∃ g r : Nat → Nat, (∀ i, r i < 61) ∧ ∀ i, i < rLeft st ti si s t n → sGood st ti l1 si s t n (gB st ti si s t M0 n) (rLeft st ti si s t n) i (cSgn C g r i) (g i, r i) := by
  obtain ⟨b1, b2, b3⟩ := gB_spec st ti si s t M0 n
  have hz : rLeft st ti si s t n ≤ 60 := Nat.le_trans (rLeft_le st ti si s t n) hn
  obtain ⟨f, f1, f2, f3⟩ := dch sStep C (0, 0) (fun i C => (∀ k, k < n → rAt st ti k s t → C k ≤ i) ∧ (∀ k, k < n → rAt st ti k s t → si k = 3 → C k = 0) ∧ uCnt C (gB st ti si s t M0 n) (rLeft st ti si s t n) + i = rLeft st ti si s t n)
    (sGood st ti l1 si s t n (gB st ti si s t M0 n) (rLeft st ti si s t n)) (rLeft st ti si s t n)
    ⟨fun k hk ha => by rw [h0 k hk ha]; exact Nat.le_refl 0, fun k hk ha _ => h0 k hk ha, by rw [uCnt_z (fun j hj => h0 _ (b1 j hj).1 (b1 j hj).2.1)]; rfl⟩
    (by
      intro i C hi ⟨c1, c2, c3⟩
      generalize hMb : gB st ti si s t M0 n = Mb at *
      generalize hzs : rLeft st ti si s t n = zs at *
      cases ho : oPick l1 C Mb (i % 2 = 0) zs with
      | none => rw [uCnt_0 (oPick_none ho)] at c3; omega
      | some x =>
        obtain ⟨⟨j0, hj0, ex⟩, cx⟩ := oPick_0 ho
        have hxn : x < n ∧ rAt st ti x s t ∧ ¬ si x = 3 := by rw [ex]; exact b1 j0 hj0
        have hinv : ∀ rr, 0 < rr → rr ≤ i + 1 → (∀ k, k < n → rAt st ti k s t → va_up C x rr k ≤ i + 1) ∧ (∀ k, k < n → rAt st ti k s t → si k = 3 → va_up C x rr k = 0) ∧ uCnt (va_up C x rr) Mb zs + (i + 1) = zs := by
          intro rr r0 r1
          refine ⟨fun k hk ha => ?_, fun k hk ha h3 => ?_, ?_⟩
          · by_cases e : k = x
            · rw [e, va_up_self]; exact r1
            · rw [va_up_ne _ _ e]; have := c1 k hk ha; omega
          · rw [va_up_ne _ _ (fun e => hxn.2.2 (by rw [← e]; exact h3))]; exact c2 k hk ha h3
          · have := uCnt_up (C := C) (rr := rr) b2 (by rw [← ex]; exact cx) r0 hj0
            rw [← ex] at this
            omega
        have hpk : ∀ sp sc : Nat → Int32, (∀ k, k < n → sp k = l1 k) → (∀ k, k < n → rAt st ti k s t → sc k = nI (C k)) → rPick st ti sp si sc s t (i % 2 = 0) n = some x := by
          intro sp sc h1 h2
          rw [← ho, ← hMb, ← hzs]
          refine (oPick_rPick h1 (fun k hk ha => ?_) (i % 2 = 0) n (Nat.le_refl n)).symm
          rw [h2 k hk ha, ← nI_0]
          have := c1 k hk ha
          exact nI_eq (by omega) (by omega)
        have hmat : ∀ sp sc : Nat → Int32, (∀ k, k < n → sp k = l1 k) → (∀ k, k < n → rAt st ti k s t → sc k = nI (C k)) → ∀ z, z < n → rMat st ti sp si sc s t x z → ∃ j, j < zs ∧ Mb j = z ∧ cMat l1 si C x (Mb j) := by
          intro sp sc h1 h2 z hz' ⟨m1, m2, m3, m4⟩
          have hcz : 0 < C z := Nat.pos_of_ne_zero (fun e => by
            rw [h2 z hz' m1, e, nI_0] at m2
            exact absurd m2 (by decide))
          obtain ⟨j, hj, e⟩ := b3 z hz' m1 (fun q => by have := c2 z hz' m1 q; omega)
          exact ⟨j, hj, e, by rw [e]; exact ⟨hcz, by rw [← h1 z hz', ← h1 x hxn.1]; exact m3, m4⟩⟩
        by_cases cm : ∃ j, j < zs ∧ cMat l1 si C x (Mb j)
        · obtain ⟨j1, ⟨hj1, hm1⟩, hl1⟩ := pk_least (fun j => j < zs ∧ cMat l1 si C x (Mb j)) cm
          have hb1 := b1 j1 hj1
          have hr1 := c1 _ hb1.1 hb1.2.1
          refine ⟨(x, C (Mb j1)), ⟨ho, fun T hT => Or.inl ⟨j1, hj1, hm1, fun y hy q => hl1 y hy ⟨by omega, q⟩, rfl⟩, hm1.1, by omega, fun sp sc h1 h2 => ⟨hpk sp sc h1 h2, Or.inl ⟨Mb j1, hb1.1, ⟨hb1.2.1, ?_, ?_, hm1.2.2⟩, ?_, (h2 _ hb1.1 hb1.2.1).symm⟩⟩⟩, hinv _ hm1.1 (by omega)⟩
          · rw [h2 _ hb1.1 hb1.2.1, nI_pos0 (by omega)]; exact hm1.1
          · rw [h1 _ hb1.1, h1 _ hxn.1]; exact hm1.2.1
          · intro z hz' q
            obtain ⟨j, hj, e, hc⟩ := hmat sp sc h1 h2 z (by omega) q
            refine hl1 j (Nat.lt_of_not_le (fun w => ?_)) ⟨hj, hc⟩
            rcases Nat.lt_or_eq_of_le w with y | y
            · have := b2 j1 j y hj; omega
            · rw [y] at hz'; omega
        · have hno : ∀ y, y < zs → ¬ cMat l1 si C x (Mb y) := fun y hy q => cm ⟨y, hy, q⟩
          obtain ⟨d, hd, hl⟩ := pk_least (fun d => ¬ ∃ q, q < zs ∧ absI (l1 (Mb q) - l1 x) < 6 ∧ C (Mb q) = d + 1) ⟨i, fun ⟨q, q1, q2, q3⟩ => by
            have := c1 _ (b1 q q1).1 (b1 q q1).2.1; omega⟩
          have hdi : d ≤ i := Nat.le_of_not_lt (fun w => hl i w (fun ⟨q, q1, q2, q3⟩ => by
            have := c1 _ (b1 q q1).1 (b1 q q1).2.1; omega))
          refine ⟨(x, d + 1), ⟨ho, fun T hT => Or.inr ⟨hno, d, by omega, rfl, fun w => ?_, fun k hk => ?_⟩, Nat.succ_pos d, by show d + 1 ≤ i + 1; omega, fun sp sc h1 h2 => ⟨hpk sp sc h1 h2, Or.inr ⟨fun z hz' q => ?_, d, by omega, rfl, fun k hk q => ?_, fun c hc q => ?_⟩⟩⟩, hinv _ (Nat.succ_pos d) (by omega)⟩
          · rw [rTk_iff (hT (d + 1) (by omega))]; exact hd
          · rw [rTk_iff (hT (k + 1) (by omega))]; exact Classical.not_not.mp (hl k hk)
          · obtain ⟨j, hj, e, hc⟩ := hmat sp sc h1 h2 z hz' q
            exact hno j hj hc
          · obtain ⟨q1, q2, q3, q4⟩ := q
            have hck := c1 k hk q1
            rw [h2 k hk q1] at q2
            have e1 : C k = d + 1 := (nI_eq (by omega) (by omega)).mp q2
            obtain ⟨j, hj, e⟩ := b3 k hk q1 (fun w => by have := c2 k hk q1 w; omega)
            refine hd ⟨j, hj, ?_, by rw [e]; exact e1⟩
            rw [e, abs_lt6 (hb k hk) (hb x hxn.1), ← h1 k hk, ← h1 x hxn.1]
            exact ⟨q3, q4⟩
          · obtain ⟨j, hj, e1, e2⟩ := Classical.not_not.mp (hl c hc)
            have hbj := b1 j hj
            rw [abs_lt6 (hb _ hbj.1) (hb x hxn.1), ← h1 _ hbj.1, ← h1 x hxn.1] at e1
            exact q (Mb j) hbj.1 ⟨hbj.2.1, by rw [h2 _ hbj.1 hbj.2.1, e2], e1.1, e1.2⟩)
  refine ⟨fun i => (f i).1, fun i => (f i).2, fun i => ?_, fun i hi => ?_⟩
  · by_cases c : i < rLeft st ti si s t n
    · have := (f2 i c).2.2.2.1
      show (f i).2 < 61
      omega
    · show (f i).2 < 61
      rw [f1 i (by omega)]
      decide
  · rw [cSgn_fold]
    exact f2 i hi
theorem rSgn_rel {C g r : Nat → Nat} {sc : Nat → Int32} {k : Nat} (h : sc k = nI (C k)) (i : Nat) : rSgn sc g (fun i => nI (r i)) i k = nI (cSgn C g r i k) := by
  induction i with
  | zero => exact h
  | succ i ih =>
    unfold rSgn cSgn
    by_cases e : k = g i
    · rw [e, pk_us, va_up_self]
    · rw [pk_un e, va_up_ne _ _ e]; exact ih
theorem rSgn_out {g : Nat → Nat} {r sc : Nat → Int32} {k N : Nat} (h : ∀ i, i < N → ¬ g i = k) : rSgn sc g r N k = sc k := by
  induction N with
  | zero => rfl
  | succ N ih => rw [rSgn, pk_un (fun q => h N (Nat.lt_succ_self N) q.symm)]; exact ih (fun i hi => h i (by omega))
theorem cSgn_out {C g r : Nat → Nat} {k N : Nat} (h : ∀ i, i < N → ¬ g i = k) : cSgn C g r N k = C k := by
  induction N with
  | zero => rfl
  | succ N ih => rw [cSgn, va_up_ne _ _ (fun q => h N (Nat.lt_succ_self N) q.symm)]; exact ih (fun i hi => h i (by omega))
/-! the greatest of numbers, by what lies above them -/
theorem mxI_le {h x : Int32} {b : Int} : (mxI h x).toInt ≤ b ↔ h.toInt ≤ b ∧ x.toInt ≤ b := by
  unfold mxI
  by_cases c : h < x
  · rw [if_pos c]; rw [Int32.lt_iff_toInt_lt] at c; omega
  · rw [if_neg c]; rw [Int32.lt_iff_toInt_lt] at c; omega
theorem mnI_le {h x : Int32} {b : Int} : b ≤ (mnI h x).toInt ↔ b ≤ h.toInt ∧ b ≤ x.toInt := by
  unfold mnI
  by_cases c : x < h
  · rw [if_pos c]; rw [Int32.lt_iff_toInt_lt] at c; omega
  · rw [if_neg c]; rw [Int32.lt_iff_toInt_lt] at c; omega
theorem eq_le {x y : Int32} (h : ∀ b : Int, x.toInt ≤ b ↔ y.toInt ≤ b) : x = y := by
  apply Int32.toInt_inj.mp
  have h1 := (h y.toInt).mpr (Int.le_refl _)
  have h2 := (h x.toInt).mp (Int.le_refl _)
  omega
theorem eq_ge {x y : Int32} (h : ∀ b : Int, b ≤ x.toInt ↔ b ≤ y.toInt) : x = y := by
  apply Int32.toInt_inj.mp
  have h1 := (h y.toInt).mpr (Int.le_refl _)
  have h2 := (h x.toInt).mp (Int.le_refl _)
  omega
theorem rMost_le (sc : Nat → Int32) (n : Nat) (b : Int) : (rMost sc n).toInt ≤ b ↔ 0 ≤ b ∧ ∀ k, k < n → (sc k).toInt ≤ b := by
  induction n with
  | zero =>
    rw [rMost, Int32.toInt_zero]
    exact ⟨fun q => ⟨q, fun k hk => absurd hk (Nat.not_lt_zero k)⟩, fun q => q.1⟩
  | succ n ih =>
    rw [rMost, mxI_le, ih]
    constructor
    · rintro ⟨⟨q1, q2⟩, q3⟩
      refine ⟨q1, fun k hk => ?_⟩
      rcases Nat.lt_succ_iff_lt_or_eq.mp hk with q | q
      · exact q2 k q
      · rw [q]; exact q3
    · rintro ⟨q1, q2⟩
      exact ⟨⟨q1, fun k hk => q2 k (by omega)⟩, q2 n (Nat.lt_succ_self n)⟩
/-- all that is wanted of the signs of a place -/
theorem signs_ok {st ti l1 si : Nat → Int32} {s t : Int32} {n : Nat} (hn : n ≤ 60) {C M0 g r : Nat → Nat} (h0 : ∀ k, k < n → rAt st ti k s t → C k = 0)
    (hg : ∀ i, i < rLeft st ti si s t n → sGood st ti l1 si s t n (gB st ti si s t M0 n) (rLeft st ti si s t n) i (cSgn C g r i) (g i, r i)) :
    cSigns l1 si C (gB st ti si s t M0 n) (rLeft st ti si s t n) g r ∧ (∀ i, i < rLeft st ti si s t n → g i < n ∧ rAt st ti (g i) s t) ∧
    ∀ sp sc : Nat → Int32, (∀ k, k < n → sp k = l1 k) → (∀ k, k < n → sc k = 0) → rSigns st ti sp si sc n s t g (fun i => nI (r i)) ∧ (∀ k, k < n → rAt st ti k s t → rSgn sc g (fun i => nI (r i)) (rLeft st ti si s t n) k = nI (cSgn C g r (rLeft st ti si s t n) k)) ∧ rMost (rSgn sc g (fun i => nI (r i)) (rLeft st ti si s t n)) n = nI (cTop r (rLeft st ti si s t n)) := by
  obtain ⟨b1, b2, b3⟩ := gB_spec st ti si s t M0 n
  have hz : rLeft st ti si s t n ≤ 60 := Nat.le_trans (rLeft_le st ti si s t n) hn
  have hgi : ∀ i, i < rLeft st ti si s t n → g i < n ∧ rAt st ti (g i) s t := by
    intro i hi
    obtain ⟨j, hj, e⟩ := (oPick_0 (hg i hi).1).1
    have e : g i = gB st ti si s t M0 n j := e
    rw [e]
    exact ⟨(b1 j hj).1, (b1 j hj).2.1⟩
  refine ⟨fun i hi => ⟨(hg i hi).1, (hg i hi).2.1⟩, hgi, fun sp sc h1 h2 => ?_⟩
  have hrel : ∀ i k, k < n → rAt st ti k s t → rSgn sc g (fun i => nI (r i)) i k = nI (cSgn C g r i k) := fun i k hk ha => rSgn_rel (by rw [h2 k hk, h0 k hk ha]; rfl) i
  refine ⟨fun i hi => (hg i hi).2.2.2.2 sp _ h1 (fun k hk ha => hrel i k hk ha), fun k hk ha => hrel _ k hk ha, ?_⟩
  have htop : ∀ i, i ≤ rLeft st ti si s t n → cTop r i ≤ i ∧ (∀ k, k < n → rAt st ti k s t → cSgn C g r i k ≤ cTop r i) ∧ (cTop r i = 0 ∨ ∃ k, k < n ∧ rAt st ti k s t ∧ cSgn C g r i k = cTop r i) := by
    intro i
    induction i with
    | zero => exact fun _ => ⟨Nat.le_refl 0, fun k hk ha => by rw [cSgn, h0 k hk ha]; exact Nat.le_refl 0, Or.inl rfl⟩
    | succ i ih =>
      intro hi
      obtain ⟨t0, t1, t2⟩ := ih (by omega)
      have hgd := hg i (by omega)
      have hr0 : 0 < r i := hgd.2.2.1
      have hr1 : r i ≤ i + 1 := hgd.2.2.2.1
      have hc0 : cSgn C g r i (g i) = 0 := (oPick_0 hgd.1).2
      have hgn := hgi i (by omega)
      unfold cTop
      refine ⟨by omega, fun k hk ha => ?_, Or.inr ?_⟩
      · rw [cSgn]
        by_cases e : k = g i
        · rw [e, va_up_self]; omega
        · rw [va_up_ne _ _ e]; have := t1 k hk ha; omega
      · by_cases c : cTop r i ≤ r i
        · exact ⟨g i, hgn.1, hgn.2, by rw [cSgn, va_up_self]; omega⟩
        · rcases t2 with q | ⟨k, k1, k2, k3⟩
          · omega
          · refine ⟨k, k1, k2, ?_⟩
            rw [cSgn, va_up_ne _ _ (fun e => by rw [e, hc0] at k3; omega), k3]
            omega
  obtain ⟨t0, t1, t2⟩ := htop _ (Nat.le_refl _)
  refine eq_le (fun b => ?_)
  rw [rMost_le, nI_toInt (by omega)]
  constructor
  · rintro ⟨q1, q2⟩
    rcases t2 with e | ⟨k, k1, k2, k3⟩
    · rw [e]; exact q1
    · have := q2 k k1
      rw [hrel _ k k1 k2, k3, nI_toInt (by omega)] at this
      exact this
  · intro q
    refine ⟨by omega, fun k hk => ?_⟩
    by_cases ha : rAt st ti k s t
    · have := t1 k hk ha
      rw [hrel _ k hk ha, nI_toInt (by omega)]
      omega
    · rw [rSgn_out (fun i hi e => ha (by rw [← e]; exact (hgi i hi).2)), h2 k hk, Int32.toInt_zero]
      omega
