/-! PURE MATHEMATICS 7: a right layout is there for every state; answers of class and reference are the same -/
theorem lay_ex {a : Nat → Nat → Int32} {n : Nat} {spk : Nat → Int32} {fi ce : Nat} {X : lS} (hn : n ≤ 60) (hfn : fi < n) (hJ : JK X) (hb : ∀ k, k < n → spB (spk k)) (h1 : ∀ k, k < n → X.1 1 k = spk k) (hvo : ∀ k, k < n → a 8 k = nI 0 ∨ a 8 k = nI 1 ∨ a 8 k = nI 2) (hC : ∀ k, k < n → rAt (a 7) (a 9) k (a 7 fi) (a 9 fi) → X.2.1 k = 0) (h7 : X.1 7 ce = 8) (h8 : X.1 8 ce = 0) (h12 : X.1 12 ce = 0) : ∃ X' : lS, LPost a n spk (a 7 fi) (a 9 fi) ce X X' := by
  obtain ⟨gz, hgz⟩ : ∃ z : Nat → Nat, z = fun v => rMany (a 7) (a 8) (a 9) (a 7 fi) (a 9 fi) (nI v) n := ⟨_, rfl⟩
  obtain ⟨gl, hgl⟩ : ∃ z : Nat → Int32, z = fun v => gLw (a 7) (a 8) (a 9) (X.1 1) (a 7 fi) (a 9 fi) (nI v) (X.2.2.2.1 0 v) n := ⟨_, rfl⟩
  obtain ⟨gh, hgh⟩ : ∃ z : Nat → Int32, z = fun v => gHg (a 7) (a 8) (a 9) (X.1 1) (a 7 fi) (a 9 fi) (nI v) (X.2.2.2.1 1 v) n := ⟨_, rfl⟩
  obtain ⟨go, hgo⟩ : ∃ z : Nat → Prop, z = fun v => gO (a 7) (a 8) (a 9) (a 12) (a 7 fi) (a 9 fi) (nI v) n := ⟨_, rfl⟩
  obtain ⟨gm, hgm⟩ : ∃ z : Nat → Nat → Nat, z = fun v => gM (a 7) (a 8) (a 9) (a 7 fi) (a 9 fi) (nI v) (X.2.2.2.2.2.2.1 v) n := ⟨_, rfl⟩
  obtain ⟨Z9, hZ9⟩ : ∃ z : Nat, z = rLeft (a 7) (a 9) (a 11) (a 7 fi) (a 9 fi) n := ⟨_, rfl⟩
  obtain ⟨B9, hB9⟩ : ∃ z : Nat → Nat, z = gB (a 7) (a 9) (a 11) (a 7 fi) (a 9 fi) (X.2.2.2.2.2.2.2.2 0) n := ⟨_, rfl⟩
  obtain ⟨r9, hr9⟩ : ∃ z : Nat → Int32, z = upd (X.1 9) ce (nI (rTot (a 7) (a 9) (a 7 fi) (a 9 fi) n)) := ⟨_, rfl⟩
  obtain ⟨uu, huu⟩ : ∃ z : Nat → Prop, z = fun v => cUp gz gl gh (X.2.2.2.2.1 1) v := ⟨_, rfl⟩
  obtain ⟨r2, hr2⟩ : ∃ z : Nat → Int32, z = cStm (cStm (cStm (X.1 2) (gm 0) (uu 0) (gz 0)) (gm 1) (uu 1) (gz 1)) (gm 2) (uu 2) (gz 2) := ⟨_, rfl⟩
  obtain ⟨r10, hr10⟩ : ∃ z : Nat → Int32, z = upd (X.1 10) ce (nI (cCnt gz 3)) := ⟨_, rfl⟩
  obtain ⟨tt, hok, hw⟩ := cell_laid (l3 := X.1 3) (l4 := X.1 4) (l5 := X.1 5) (C := X.2.1) (l7 := X.1 7) (l8 := X.1 8) (l11 := X.1 11) (l12 := X.1 12) (ce := ce) hgz hgl hgh hgo hgm hZ9 hB9 hr9 huu hr2 hr10 hn hvo hb h1 hJ.2.1 hC h7 h8 h12
  obtain ⟨mm, hmm⟩ : ∃ z : Nat → Nat → Nat, z = fun v => rSrt (gm v) (tt v) (gz v - 1) := ⟨_, rfl⟩
  obtain ⟨r3, hr3⟩ : ∃ z : Nat → Int32, z = cTurn (X.1 1) (mm 2) (uu 2) (cTurn (X.1 1) (mm 1) (uu 1) (cTurn (X.1 1) (mm 0) (uu 0) (X.1 3) (gz 0)) (gz 1)) (gz 2) := ⟨_, rfl⟩
  obtain ⟨hsp, d, g, r, d0, d1, d2, hn1, ho1, hn2, ho2, hr61, hsg, hfin⟩ := hw _ _ hmm hr3
  obtain ⟨k4, hk4, ek4⟩ : ∃ z : Nat → Nat → Int32, z 0 = X.1 4 ∧ ∀ v, v < 3 → z (v + 1) = cRow (z v) (mm v) (nI (d v)) (gz v) := ⟨kRow (fun v row => cRow row (mm v) (nI (d v)) (gz v)) (X.1 4), rfl, fun _ _ => rfl⟩
  obtain ⟨k5, hk5, ek5⟩ : ∃ z : Nat → Nat → Int32, z 0 = X.1 5 ∧ ∀ v, v < 3 → z (v + 1) = cRow (z v) (mm v) (nI (gz v)) (gz v) := ⟨kRow (fun v row => cRow row (mm v) (nI (gz v)) (gz v)) (X.1 5), rfl, fun _ _ => rfl⟩
  obtain ⟨k7, hk7, ek7⟩ : ∃ z : Nat → Nat → Int32, z 0 = X.1 7 ∧ ∀ v, v < 3 → z (v + 1) = if 0 < gz v then upd (z v) ce (mxI ((z v) ce) (cI (uu v ∧ ¬ go v) (mxI (gh v + 7) 4) (gh v))) else (z v) := ⟨kRow (fun v row => if 0 < gz v then upd row ce (mxI (row ce) (cI (uu v ∧ ¬ go v) (mxI (gh v + 7) 4) (gh v))) else row) (X.1 7), rfl, fun _ _ => rfl⟩
  obtain ⟨k8, hk8, ek8⟩ : ∃ z : Nat → Nat → Int32, z 0 = X.1 8 ∧ ∀ v, v < 3 → z (v + 1) = if 0 < gz v then upd (z v) ce (mnI ((z v) ce) (cI (¬ uu v ∧ ¬ go v) (mnI (gl v - 7) 4) (gl v))) else (z v) := ⟨kRow (fun v row => if 0 < gz v then upd row ce (mnI (row ce) (cI (¬ uu v ∧ ¬ go v) (mnI (gl v - 7) 4) (gl v))) else row) (X.1 8), rfl, fun _ _ => rfl⟩
  obtain ⟨k12, hk12, ek12⟩ : ∃ z : Nat → Nat → Int32, z 0 = X.1 12 ∧ ∀ v, v < 3 → z (v + 1) = if 0 < gz v then upd (z v) ce (mxI ((z v) ce) (nI (d v))) else (z v) := ⟨kRow (fun v row => if 0 < gz v then upd row ce (mxI (row ce) (nI (d v))) else row) (X.1 12), rfl, fun _ _ => rfl⟩
  have hq := hfin k4 k5 k7 k8 k12 hk4 ek4 hk5 ek5 hk7 ek7 hk8 ek8 hk12 ek12
  have hgm60 : ∀ v i, gm v i < 60 := fun v i => by rw [hgm]; exact gM_60 hn (hJ.2.1 v) i
  have hB60 : ∀ i, B9 i < 60 := fun i => by rw [hB9]; exact gB_60 hn hJ.2.2 i
  exact ⟨(fun i => if i = 1 then X.1 1 else if i = 2 then r2 else if i = 3 then r3 else if i = 4 then k4 3 else if i = 5 then k5 3 else if i = 7 then k7 3 else if i = 8 then k8 3 else if i = 9 then r9 else if i = 10 then r10 else if i = 11 then upd (X.1 11) ce (nI (cTop r Z9)) else k12 3, cSgn X.2.1 g r Z9, gz, fun i => if i = 0 then gl else gh, fun i => if i = 0 then go else uu, d, mm, Z9, fun i => if i = 0 then B9 else B9), ⟨fun j => cSgn_lt hJ.1 hr61 _ j, fun v i => by show mm v i < 60; rw [hmm]; exact rSrt_60 (hgm60 v) _ i, hB60⟩, rfl, hq.1, hq.2.1, hq.2.2⟩
theorem LK_ex {n m : Nat} {a : Nat → Nat → Int32} (hW : WF n m a) : ∃ X : lS, JK X ∧ LK a n m X := by
  have hst : ∀ i, i ≤ n → ∃ Y : lS, I2 a n (spK a m) i Y := by
    intro i
    induction i with
    | zero => exact fun _ => ⟨(fun i => if i = 1 then spK a m else if i = 7 then fun _ => 8 else fun _ => 0, fun _ => 0, fun _ => 0, fun _ _ => 0, fun _ _ => True, fun _ => 0, fun _ _ => 0, 0, fun _ _ => 0), I2_0 hW.1 ⟨fun _ => by show 0 < 61; omega, fun _ _ => by show 0 < 60; omega, fun _ => by show 0 < 60; omega⟩ (fun _ _ => rfl) (fun _ _ => rfl) (fun _ _ => rfl) (fun _ _ => rfl) (fun _ _ => rfl) (fun _ _ => rfl) (fun _ _ => rfl) (fun _ _ => rfl)⟩
    | succ i ih =>
      intro hi
      obtain ⟨Y, hY⟩ := ih (by omega)
      obtain ⟨s, hs, es⟩ := hW.2.2.1 i (by omega)
      obtain ⟨t, ht, et⟩ := hW.2.2.2.2.1 i (by omega)
      by_cases h9 : Y.1 9 (s * 100 + t) = 0
      · have hp := I2_pre hW.1 hW.2.2.2.1 (by omega) hs ht hY h9
        obtain ⟨Y', hY'⟩ := lay_ex (fi := i) (ce := s * 100 + t) (X := Y) hW.1 (by omega) hY.1 (fun k hk => spK_bd hW k hk) hY.2.1 hW.2.2.2.1 (by rw [es, et]; exact hp.2.1) hp.2.2.1 hp.2.2.2.1 hp.2.2.2.2.2.2.2
        rw [es, et] at hY'
        exact ⟨Y', I2_lay hs ht es et hY hY'⟩
      · exact ⟨Y, I2_skip hs ht es et hY h9⟩
  obtain ⟨Y, hY⟩ := hst n (Nat.le_refl n)
  exact ⟨Y, I2_n hY⟩
theorem rRk_v (s1 s2 s3 s4 s5 s6 : Nat → Int32) (m : Nat) (st ti nu sp : Nat → Int32) (n k : Nat) (hk : k < n) : rRk s1 s2 s3 s4 s5 s6 m st ti nu sp n k = rSpK s1 s2 s3 s4 s5 s6 m st ti nu k := by
  induction n with
  | zero => exact absurd hk (Nat.not_lt_zero k)
  | succ n ih =>
    unfold rRk
    by_cases c : k = n
    · rw [c, pk_us]
    · rw [pk_un c]; exact ih (by omega)
theorem SR_v {a : Nat → Nat → Int32} {m n k : Nat} (hk : k < n) : SR a m n k = spK a m k := rRk_v _ _ _ _ _ _ _ _ _ _ _ _ _ hk
theorem rZero_v {sc : Nat → Int32} {n k : Nat} (hk : k < n) : rZero sc n k = 0 := by
  induction n with
  | zero => exact absurd hk (Nat.not_lt_zero k)
  | succ n ih =>
    unfold rZero
    by_cases c : k = n
    · rw [c, pk_us]
    · rw [pk_un c]; exact ih (by omega)
/-- for every place, told or not: witnesses for the reference -/
theorem place_ex {n m : Nat} {a : Nat → Nat → Int32} (hW : WF n m a) {X : lS} (hX : LK a n m X) (s t : Int32) : ∃ (as : Nat → Int32) (d g r : Nat → Nat), rAsides (a 7) (a 8) (a 9) (SR a m n) n s t as ∧ (∀ co, rMoves (a 7) (a 8) (a 9) (SR a m n) (a 12) (a 11) n s t co as d) ∧ (∀ sc, (∀ k, k < n → sc k = 0) → rSigns (a 7) (a 9) (SR a m n) (a 11) sc n s t g (fun i => nI (r i))) := by
  by_cases c : ∃ k, k < n ∧ rAt (a 7) (a 9) k s t
  · obtain ⟨k, hk, h1, h2⟩ := c
    obtain ⟨j, hj, e1⟩ := hW.2.2.1 k hk
    obtain ⟨q, hq, e2⟩ := hW.2.2.2.2.1 k hk
    obtain ⟨as, d, g, r, w, -⟩ := hX.2 j q hj hq
    rw [← e1, ← e2, h1, h2] at w
    have hz : ∀ k, k < n → (fun _ : Nat => (0 : Int32)) k = 0 := fun _ _ => rfl
    exact ⟨as, d, g, r, (w (SR a m n) (fun _ => 0) (fun _ => 0) (fun k hk => SR_v hk) hz).1, fun co => (w (SR a m n) (fun _ => 0) co (fun k hk => SR_v hk) hz).2.1, fun sc hsc => (w (SR a m n) sc (fun _ => 0) (fun k hk => SR_v hk) hsc).2.2.1⟩
  · have hno : ∀ k, k < n → ¬ rAt (a 7) (a 9) k s t := fun k hk ha => c ⟨k, hk, ha⟩
    obtain ⟨as, d, g, r, w, -⟩ := cell_empty (spk := spK a m) (ce := 0) (l2 := fun _ => 0) (l3 := fun _ => 0) (l4 := fun _ => 0) (l5 := fun _ => 0) (C := fun _ => 0) (l7 := fun _ => 8) (l8 := fun _ => 0) (l9 := fun _ => 0) (l10 := fun _ => 0) (l11 := fun _ => 0) (l12 := fun _ => 0) hno rfl rfl rfl rfl rfl rfl
    have hz : ∀ k, k < n → (fun _ : Nat => (0 : Int32)) k = 0 := fun _ _ => rfl
    exact ⟨as, d, g, r, (w (SR a m n) (fun _ => 0) (fun _ => 0) (fun k hk => SR_v hk) hz).1, fun co => (w (SR a m n) (fun _ => 0) co (fun k hk => SR_v hk) hz).2.1, fun sc hsc => (w (SR a m n) sc (fun _ => 0) (fun k hk => SR_v hk) hsc).2.2.1⟩
/-- answers of 'of' -/
theorem of_eq {n m : Nat} {a : Nat → Nat → Int32} (hW : WF n m a) {X : lS} (hX : LK a n m X) {kk : Nat} (hk : kk < n) : ∃ (as : Nat → Int32) (d g r : Nat → Nat) (vv : Nat), (a 8 kk = nI vv ∧ vv < 3) ∧ rAsides (a 7) (a 8) (a 9) (SR a m n) n (a 7 kk) (a 9 kk) as ∧ rMoves (a 7) (a 8) (a 9) (SR a m n) (a 12) (a 11) n (a 7 kk) (a 9 kk) (a 15) as d ∧ rSigns (a 7) (a 9) (SR a m n) (a 11) (rZero (a 16) n) n (a 7 kk) (a 9 kk) g (fun i => nI (r i)) ∧
    ∀ p2, ofAns p2 (X.1 1 kk) (X.1 2 kk) (X.1 3 kk) (X.1 4 kk + X.1 3 kk) (nI (X.2.1 kk)) (X.1 4 kk) (X.1 5 kk) = ofAns p2 (SR a m n kk) (bv (rUp (a 7) (a 8) (a 9) (SR a m n) n (a 7 kk) (a 9 kk) (a 8 kk))) (as kk) ((rCol (a 7) (a 8) (a 9) (a 7 kk) (a 9 kk) n (a 15) as d 3) kk) ((rSgn (rZero (a 16) n) g (fun i => nI (r i)) (rLeft (a 7) (a 9) (a 11) (a 7 kk) (a 9 kk) n)) kk) (nI (d vv)) (nI (rMany (a 7) (a 8) (a 9) (a 7 kk) (a 9 kk) (a 8 kk) n)) := by
  obtain ⟨j, hj, e1⟩ := hW.2.2.1 kk hk
  obtain ⟨q, hq, e2⟩ := hW.2.2.2.2.1 kk hk
  obtain ⟨vv, hv, e3⟩ : ∃ v, v < 3 ∧ a 8 kk = nI v := by
    rcases hW.2.2.2.1 kk hk with e | e | e
    · exact ⟨0, by omega, e⟩
    · exact ⟨1, by omega, e⟩
    · exact ⟨2, by omega, e⟩
  obtain ⟨as, d, g, r, w, w2, -⟩ := hX.2 j q hj hq
  rw [← e1, ← e2] at w w2
  obtain ⟨w3, w4, w5, w6, -⟩ := w (SR a m n) (rZero (a 16) n) (a 15) (fun k hk => SR_v hk) (fun k hk => rZero_v hk)
  obtain ⟨c1, c2⟩ := w2 kk hk ⟨rfl, rfl⟩
  obtain ⟨c3, c4⟩ := c2 vv hv e3
  obtain ⟨c5, c6⟩ := w6 kk hk ⟨rfl, rfl⟩
  refine ⟨as, d, g, r, vv, ⟨e3, hv⟩, w3, w4, w5, fun p2 => ?_⟩
  rw [hX.1 kk hk, ← SR_v (n := n) hk, c5, c1, c3, c4, ← c6, rCol_v (w := vv) (Nat.le_refl 3) hv hk ⟨⟨rfl, rfl⟩, e3⟩, Int32.add_comm (nI (d vv)), e3]
theorem at_eq {n m : Nat} {a : Nat → Nat → Int32} {X : lS} (hX : LK a n m X) {s t : Nat} (hs : s < 4) (ht : t < 100) : ∃ (g r : Nat → Nat), rSigns (a 7) (a 9) (SR a m n) (a 11) (rZero (a 16) n) n (nI s) (nI t) g (fun i => nI (r i)) ∧
    ∀ p3, atAns p3 (X.1 7 (s * 100 + t)) (X.1 8 (s * 100 + t)) (X.1 9 (s * 100 + t)) (X.1 10 (s * 100 + t)) (X.1 11 (s * 100 + t)) = atAns p3 (rHigh (a 7) (a 8) (a 9) (SR a m n) (a 12) n (nI s) (nI t) n) (rLow (a 7) (a 8) (a 9) (SR a m n) (a 12) n (nI s) (nI t) n) (nI (rAll (a 7) (a 8) (a 9) n (nI s) (nI t) 3)) (nI (rChs (a 7) (a 8) (a 9) n (nI s) (nI t) 3)) (rMost (rSgn (rZero (a 16) n) g (fun i => nI (r i)) (rLeft (a 7) (a 9) (a 11) (nI s) (nI t) n)) n) := by
  obtain ⟨as, d, g, r, w, -, q3, q4, -⟩ := hX.2 s t hs ht
  obtain ⟨-, -, w5, -, w7, w8, w9⟩ := w (SR a m n) (rZero (a 16) n) (a 15) (fun k hk => SR_v hk) (fun k hk => rZero_v hk)
  exact ⟨g, r, w5, fun p3 => by rw [w7, w8, q3, q4, w9]⟩
theorem shared_eq {n m : Nat} {a : Nat → Nat → Int32} (hW : WF n m a) {X : lS} (hX : LK a n m X) {x y : Nat} (hx : x < n) (hy : y < n) : bv (rAt (a 7) (a 9) y (a 7 x) (a 9 x) ∧ cSh (X.1 1) (X.1 2) (a 12) (a 11) x y) = bv (rSh (a 7) (a 8) (a 9) (SR a m n) (a 12) (a 11) n x y) := by
  obtain ⟨j, hj, e1⟩ := hW.2.2.1 x hx
  obtain ⟨q, hq, e2⟩ := hW.2.2.2.2.1 x hx
  obtain ⟨as, d, g, r, w, -⟩ := hX.2 j q hj hq
  rw [← e1, ← e2] at w
  obtain ⟨-, -, -, w6, -⟩ := w (SR a m n) (rZero (a 16) n) (a 15) (fun k hk => SR_v hk) (fun k hk => rZero_v hk)
  have hiff : (rAt (a 7) (a 9) y (a 7 x) (a 9 x) ∧ cSh (X.1 1) (X.1 2) (a 12) (a 11) x y) ↔ rSh (a 7) (a 8) (a 9) (SR a m n) (a 12) (a 11) n x y := by
    unfold rSh cSh
    rw [hX.1 x hx, hX.1 y hy, SR_v hx, SR_v hy]
    constructor
    · rintro ⟨h0, h1, h2, h3, h4⟩
      rw [(w6 x hx ⟨rfl, rfl⟩).1, (w6 y hy h0).1] at h4
      refine ⟨h0, h1, h2, h3, ?_⟩
      rw [h0.1, h0.2]
      exact h4
    · rintro ⟨h0, h1, h2, h3, h4⟩
      rw [h0.1, h0.2] at h4
      refine ⟨h0, h1, h2, h3, ?_⟩
      rw [(w6 x hx ⟨rfl, rfl⟩).1, (w6 y hy h0).1]
      exact h4
  exact bv_iff hiff
/-! gaps -/
theorem rHigh_bd {n m : Nat} {a : Nat → Nat → Int32} (hW : WF n m a) (s t : Int32) : (8 ≤ (rHigh (a 7) (a 8) (a 9) (SR a m n) (a 12) n s t n).toInt ∧ (rHigh (a 7) (a 8) (a 9) (SR a m n) (a 12) n s t n).toInt ≤ 1007) ∧ (-1007 ≤ (rLow (a 7) (a 8) (a 9) (SR a m n) (a 12) n s t n).toInt ∧ (rLow (a 7) (a 8) (a 9) (SR a m n) (a 12) n s t n).toInt ≤ 0) := by
  have hb : ∀ k, k < n → spB (SR a m n k) := fun k hk => by rw [SR_v hk]; exact spK_bd hW k hk
  refine ⟨⟨((rHigh_le n _).mp (Int.le_refl _)).1, (rHigh_le n _).mpr ⟨by omega, fun k hk _ => ⟨?_, fun _ => ?_⟩⟩⟩, ⟨(rLow_ge n _).mpr ⟨by omega, fun k hk _ => ⟨?_, fun _ => ?_⟩⟩, ((rLow_ge n _).mp (Int.le_refl _)).1⟩⟩
  · have := (hb k hk).2; omega
  · have h1 := rEnd_bd (st := a 7) (vo := a 8) (ti := a 9) (s := s) (t := t) (v := a 8 k) hb
    rw [add_bd (by omega) (by omega) (by decide) (by decide), t7]; omega
  · have := (hb k hk).1; omega
  · have h1 := rEnd_bd (st := a 7) (vo := a 8) (ti := a 9) (s := s) (t := t) (v := a 8 k) hb
    rw [sub_bd (by omega) (by omega) (by decide) (by decide), t7]; omega
theorem cGap_le (l7 l8 : Nat → Int32) (pad least : Int32) (up lo t : Nat) (b : Int) : (cGap l7 l8 pad least up lo t).toInt ≤ b ↔ least.toInt ≤ b ∧ ∀ q, q < t → (-(l8 (up * 100 + q)) + (l7 (lo * 100 + q) - 8) + pad).toInt ≤ b := by
  induction t with
  | zero => exact ⟨fun q => ⟨q, fun k hk => absurd hk (Nat.not_lt_zero k)⟩, fun q => q.1⟩
  | succ t ih =>
    rw [cGap, mxI_le, ih]
    constructor
    · rintro ⟨⟨q1, q2⟩, q3⟩
      refine ⟨q1, fun k hk => ?_⟩
      rcases Nat.lt_succ_iff_lt_or_eq.mp hk with q | q
      · exact q2 k q
      · rw [q]; exact q3
    · rintro ⟨q1, q2⟩
      exact ⟨⟨q1, fun k hk => q2 k (by omega)⟩, q2 t (Nat.lt_succ_self t)⟩
theorem rGap_le (st vo ti sp he : Nat → Int32) (n : Nat) (s u pad least : Int32) (m : Nat) (b : Int) : (rGap st vo ti sp he n s u pad least m).toInt ≤ b ↔ (pad.toInt ≤ b ∧ least.toInt ≤ b) ∧ ∀ k, k < m → (st k = s ∨ st k = u) → rFirst st ti k s u → (rHigh st vo ti sp he n s (ti k) n - 8 - rLow st vo ti sp he n u (ti k) n + pad).toInt ≤ b := by
  induction m with
  | zero => rw [rGap, mxI_le]; exact ⟨fun q => ⟨q, fun k hk => absurd hk (Nat.not_lt_zero k)⟩, fun q => q.1⟩
  | succ m ih =>
    rw [rGap]
    by_cases c : (st m = s ∨ st m = u) ∧ rFirst st ti m s u
    · rw [if_pos c, mxI_le, ih]
      constructor
      · rintro ⟨⟨q1, q2⟩, q3⟩
        refine ⟨q1, fun k hk => ?_⟩
        rcases Nat.lt_succ_iff_lt_or_eq.mp hk with q | q
        · exact q2 k q
        · rw [q]; exact fun _ _ => q3
      · rintro ⟨q1, q2⟩
        exact ⟨⟨q1, fun k hk => q2 k (by omega)⟩, q2 m (Nat.lt_succ_self m) c.1 c.2⟩
    · rw [if_neg c, ih]
      constructor
      · rintro ⟨q1, q2⟩
        refine ⟨q1, fun k hk => ?_⟩
        rcases Nat.lt_succ_iff_lt_or_eq.mp hk with q | q
        · exact q2 k q
        · rw [q]; exact fun z1 z2 => absurd ⟨z1, z2⟩ c
      · rintro ⟨q1, q2⟩
        exact ⟨q1, fun k hk => q2 k (by omega)⟩
theorem gap_ring (h l p : Int32) : -l + (h - 8) + p = h - 8 - l + p := by grind
theorem gap_int {h l p : Int32} (h1 : 8 ≤ h.toInt ∧ h.toInt ≤ 1007) (h2 : -1007 ≤ l.toInt ∧ l.toInt ≤ 0) (h3 : 0 ≤ p.toInt ∧ p.toInt ≤ 100) : (h - 8 - l + p).toInt = h.toInt - 8 - l.toInt + p.toInt := by
  have a1 := sub_bd (x := h) (c := 8) (by omega) (by omega) (by decide) (by decide)
  rw [t8] at a1
  have a2 := sub_bd (x := h - 8) (c := l) (by omega) (by omega) (by omega) (by omega)
  have a3 := add_bd (x := h - 8 - l) (c := p) (by omega) (by omega) (by omega) (by omega)
  omega
theorem gap_eq {n m : Nat} {a : Nat → Nat → Int32} (hW : WF n m a) {X : lS} (hX : LK a n m X) {pad least : Int32} (hp : 0 ≤ pad.toInt ∧ pad.toInt ≤ 100) {up dn : Nat} (hup : up < 4) (hdn : dn < 4) : cGap (X.1 7) (X.1 8) pad least up dn 100 = rGap (a 7) (a 8) (a 9) (SR a m n) (a 12) n (nI dn) (nI up) pad least n := by
  have hrow : ∀ s t, s < 4 → t < 100 → X.1 7 (s * 100 + t) = rHigh (a 7) (a 8) (a 9) (SR a m n) (a 12) n (nI s) (nI t) n ∧ X.1 8 (s * 100 + t) = rLow (a 7) (a 8) (a 9) (SR a m n) (a 12) n (nI s) (nI t) n := by
    intro s t hs ht
    obtain ⟨as, d, g, r, w, -⟩ := hX.2 s t hs ht
    obtain ⟨-, -, -, -, w7, w8, -⟩ := w (SR a m n) (rZero (a 16) n) (a 15) (fun k hk => SR_v hk) (fun k hk => rZero_v hk)
    exact ⟨w7, w8⟩
  refine eq_le (fun b => ?_)
  rw [cGap_le, rGap_le]
  constructor
  · rintro ⟨q1, q2⟩
    refine ⟨⟨?_, q1⟩, fun k hk _ _ => ?_⟩
    · have := q2 0 (by omega)
      rw [(hrow up 0 hup (by omega)).2, (hrow dn 0 hdn (by omega)).1, gap_ring, gap_int (rHigh_bd hW _ _).1 (rHigh_bd hW _ _).2 hp] at this
      have h1 := (rHigh_bd hW (nI dn) (nI 0)).1
      have h2 := (rHigh_bd hW (nI up) (nI 0)).2
      omega
    · obtain ⟨t, ht, e⟩ := hW.2.2.2.2.1 k hk
      have := q2 t ht
      rw [(hrow up t hup ht).2, (hrow dn t hdn ht).1, gap_ring] at this
      rw [e]
      exact this
  · rintro ⟨⟨q0, q1⟩, q2⟩
    refine ⟨q1, fun t ht => ?_⟩
    rw [(hrow up t hup ht).2, (hrow dn t hdn ht).1, gap_ring]
    by_cases c : ∃ k, k < n ∧ a 9 k = nI t ∧ (a 7 k = nI dn ∨ a 7 k = nI up)
    · obtain ⟨k, ⟨hk, hkt, hks⟩, hl⟩ := pk_least (fun k => k < n ∧ a 9 k = nI t ∧ (a 7 k = nI dn ∨ a 7 k = nI up)) c
      have := q2 k hk hks (fun q hq z => hl q hq ⟨by omega, by rw [z.1, hkt], z.2⟩)
      rw [hkt] at this
      exact this
    · have h1 := (rHigh_0 (vo := a 8) (sp := SR a m n) (he := a 12) (N := n) (n := n) (m := n) (st := a 7) (ti := a 9) (s := nI dn) (t := nI t) (fun k hk ha => c ⟨k, hk, ha.2, Or.inl ha.1⟩) (Nat.le_refl n)).1
      have h2 := (rHigh_0 (vo := a 8) (sp := SR a m n) (he := a 12) (N := n) (n := n) (m := n) (st := a 7) (ti := a 9) (s := nI up) (t := nI t) (fun k hk ha => c ⟨k, hk, ha.2, Or.inr ha.1⟩) (Nat.le_refl n)).2
      rw [h1, h2, show (8 : Int32) - 8 - 0 + pad = pad by grind]
      exact q0
theorem cGap_bd {n m : Nat} {a : Nat → Nat → Int32} (hW : WF n m a) {X : lS} (hX : LK a n m X) {pad least : Int32} (hp : 0 ≤ pad.toInt ∧ pad.toInt ≤ 100) (hl : 0 ≤ least.toInt ∧ least.toInt ≤ 100) {up dn : Nat} (hup : up < 4) (hdn : dn < 4) : 0 ≤ (cGap (X.1 7) (X.1 8) pad least up dn 100).toInt ∧ (cGap (X.1 7) (X.1 8) pad least up dn 100).toInt ≤ 3000 := by
  rw [gap_eq hW hX hp hup hdn]
  have h1 := ((rGap_le (a 7) (a 8) (a 9) (SR a m n) (a 12) n (nI dn) (nI up) pad least n _).mp (Int.le_refl _)).1.1
  refine ⟨by omega, (rGap_le (a 7) (a 8) (a 9) (SR a m n) (a 12) n (nI dn) (nI up) pad least n _).mpr ⟨⟨by omega, by omega⟩, fun k hk _ _ => ?_⟩⟩
  have h2 := (rHigh_bd hW (nI dn) (a 9 k)).1
  have h3 := (rHigh_bd hW (nI up) (a 9 k)).2
  rw [gap_int h2 h3 hp]
  omega
theorem l64_add {x y : Int32} (h1 : -100000 ≤ x.toInt) (h2 : x.toInt ≤ 100000) (h3 : -100000 ≤ y.toInt) (h4 : y.toInt ≤ 100000) : (x + y).toInt64 = x.toInt64 + y.toInt64 := by
  apply Int64.toInt_inj.mp
  rw [Int32.toInt_toInt64, add_bd h1 h2 h3 h4, Int64.toInt_add, Int32.toInt_toInt64, Int32.toInt_toInt64]
  exact (Int.bmod_eq_of_le (by omega) (by omega)).symm
theorem l64_sub {x y : Int32} (h1 : -100000 ≤ x.toInt) (h2 : x.toInt ≤ 100000) (h3 : -100000 ≤ y.toInt) (h4 : y.toInt ≤ 100000) : (x - y).toInt64 = x.toInt64 - y.toInt64 := by
  apply Int64.toInt_inj.mp
  rw [Int32.toInt_toInt64, sub_bd h1 h2 h3 h4, Int64.toInt_sub, Int32.toInt_toInt64, Int32.toInt_toInt64]
  exact (Int.bmod_eq_of_le (by omega) (by omega)).symm
theorem down_eq {n m : Nat} {a : Nat → Nat → Int32} (hW : WF n m a) {X : lS} (hX : LK a n m X) {pad least h : Int32} (hp : 0 ≤ pad.toInt ∧ pad.toInt ≤ 100) (hl : 0 ≤ least.toInt ∧ least.toInt ≤ 100) {j : Nat} (hj : j < 4) : (cDown (a 7) h n (X.1 7) (X.1 8) pad least j).toInt64 = rPl (a 7) (a 8) (a 9) (SR a m n) (a 12) n pad least h j ∧ 0 ≤ (cDown (a 7) h n (X.1 7) (X.1 8) pad least j).toInt ∧ (cDown (a 7) h n (X.1 7) (X.1 8) pad least j).toInt ≤ 4000 * j := by
  induction j with
  | zero => exact ⟨rfl, by rw [cDown, Int32.toInt_zero]; omega, by rw [cDown, Int32.toInt_zero]; omega⟩
  | succ j ih =>
    obtain ⟨i1, i2, i3⟩ := ih (by omega)
    have hu := rUpr_le (a 7) h n j
    have g1 := gap_eq (least := least) hW hX hp (show rUpr (a 7) h n j < 4 by omega) hj
    have g2 := cGap_bd hW hX hp hl (show rUpr (a 7) h n j < 4 by omega) hj
    unfold cDown rPl
    by_cases c : rHidA (a 7) h (nI (j + 1)) n
    · rw [if_pos c, if_pos c, Int64.add_zero]
      exact ⟨i1, i2, by omega⟩
    · rw [if_neg c, if_neg c]
      have e1 := add_bd (x := cGap (X.1 7) (X.1 8) pad least (rUpr (a 7) h n j) (j + 1) 100) (c := 8) (by omega) (by omega) (by decide) (by decide)
      rw [t8] at e1
      have e2 := add_bd (x := cDown (a 7) h n (X.1 7) (X.1 8) pad least j) (c := cGap (X.1 7) (X.1 8) pad least (rUpr (a 7) h n j) (j + 1) 100 + 8) (by omega) (by omega) (by omega) (by omega)
      refine ⟨?_, by omega, by omega⟩
      rw [l64_add (by omega) (by omega) (by omega) (by omega), i1]
      unfold rGapA
      rw [← g1]
theorem height_ring (u s p : Int64) : u * (s - p) = u * s - u * p := by grind
theorem height_eq {n m : Nat} {a : Nat → Nat → Int32} (hW : WF n m a) {X : lS} (hX : LK a n m X) {pad least h : Int32} (hp : 0 ≤ pad.toInt ∧ pad.toInt ≤ 100) (hl : 0 ≤ least.toInt ∧ least.toInt ≤ 100) {j k : Nat} (hj : j < 4) (hk : k < n) (u1 : Int64) : u1 * (X.1 1 k - cDown (a 7) h n (X.1 7) (X.1 8) pad least j).toInt64 = u1 * (SR a m n k).toInt64 - u1 * rPl (a 7) (a 8) (a 9) (SR a m n) (a 12) n pad least h j := by
  obtain ⟨i1, i2, i3⟩ := down_eq (h := h) hW hX hp hl hj
  have hb := spK_bd hW k hk
  unfold spB at hb
  rw [hX.1 k hk, SR_v hk, l64_sub (by omega) (by omega) (by omega) (by omega), i1]
  exact height_ring _ _ _
/-! ticks that are crowded -/
theorem crowd_eq {n m : Nat} {a : Nat → Nat → Int32} (hW : WF n m a) {X : lS} (hX : LK a n m X) {s : Nat} (hs : s < 4) : ∃ (as : Nat → Nat → Int32) (d : Nat → Nat → Nat), (∀ t, t < 100 → rAsides (a 7) (a 8) (a 9) (SR a m n) n (nI s) (nI t) (as t) ∧ ∀ co, rMoves (a 7) (a 8) (a 9) (SR a m n) (a 12) (a 11) n (nI s) (nI t) co (as t) (d t)) ∧ ∀ t, t ≤ 100 → cTks (X.1 9) s t = rTks (a 7) (a 8) (a 9) n (nI s) t ∧ cCrd (X.1 12) s t = rCrd (a 7) (a 8) (a 9) n (nI s) d t := by
  have hcell : ∀ t, ∃ q : (Nat → Int32) × (Nat → Nat), t < 100 → (rAsides (a 7) (a 8) (a 9) (SR a m n) n (nI s) (nI t) q.1 ∧ ∀ co, rMoves (a 7) (a 8) (a 9) (SR a m n) (a 12) (a 11) n (nI s) (nI t) co q.1 q.2) ∧ X.1 9 (s * 100 + t) = nI (rAll (a 7) (a 8) (a 9) n (nI s) (nI t) 3) ∧ (0 < X.1 12 (s * 100 + t) ↔ 0 < q.2 0 + q.2 1 + q.2 2) := by
    intro t
    by_cases ht : t < 100
    · obtain ⟨as, d, g, r, w, -, q3, -, q5⟩ := hX.2 s t hs ht
      exact ⟨(as, d), fun _ => ⟨⟨(w (SR a m n) (rZero (a 16) n) (a 15) (fun k hk => SR_v hk) (fun k hk => rZero_v hk)).1, fun co => (w (SR a m n) (rZero (a 16) n) co (fun k hk => SR_v hk) (fun k hk => rZero_v hk)).2.1⟩, q3, q5⟩⟩
    · exact ⟨(fun _ => 0, fun _ => 0), fun h => absurd h ht⟩
  obtain ⟨f, hf⟩ := Classical.axiomOfChoice hcell
  refine ⟨fun t => (f t).1, fun t => (f t).2, fun t ht => (hf t ht).1, ?_⟩
  intro t
  induction t with
  | zero => exact fun _ => ⟨rfl, rfl⟩
  | succ t ih =>
    intro ht
    obtain ⟨i1, i2⟩ := ih (by omega)
    obtain ⟨⟨w1, w2⟩, w3, w4⟩ := hf t (by omega)
    have hle := rAll_le (a 7) (a 8) (a 9) n (nI s) (nI t) 3
    have hn := hW.1
    have hall : rAll (a 7) (a 8) (a 9) n (nI s) (nI t) 3 = rMany (a 7) (a 8) (a 9) (nI s) (nI t) 0 n + rMany (a 7) (a 8) (a 9) (nI s) (nI t) 1 n + rMany (a 7) (a 8) (a 9) (nI s) (nI t) 2 n := by
      simp only [rAll, Nat.zero_add]
      rfl
    have h9 : 0 < X.1 9 (s * 100 + t) ↔ 0 < rMany (a 7) (a 8) (a 9) (nI s) (nI t) 0 n + rMany (a 7) (a 8) (a 9) (nI s) (nI t) 1 n + rMany (a 7) (a 8) (a 9) (nI s) (nI t) 2 n := by
      rw [w3, nI_pos0 (by omega), hall]
    have hpos : 0 < (f t).2 0 + (f t).2 1 + (f t).2 2 → 0 < rMany (a 7) (a 8) (a 9) (nI s) (nI t) 0 n + rMany (a 7) (a 8) (a 9) (nI s) (nI t) 1 n + rMany (a 7) (a 8) (a 9) (nI s) (nI t) 2 n := by
      intro h
      rw [← hall]
      obtain ⟨v, hv, hd⟩ : ∃ v, v < 3 ∧ 0 < (f t).2 v := by
        by_cases c0 : 0 < (f t).2 0
        · exact ⟨0, by omega, c0⟩
        · by_cases c1 : 0 < (f t).2 1
          · exact ⟨1, by omega, c1⟩
          · exact ⟨2, by omega, by omega⟩
      refine rAll_pos hW.2.2.2.1 (Classical.not_not.mp (fun q => ?_))
      exact (w2 (a 15) v hv).2.2 0 hd (fun x hx y hy z => q ⟨x, hx, z.1.1⟩)
    unfold cTks rTks cCrd rCrd
    refine ⟨?_, ?_⟩
    · rw [i1]
      by_cases c : 0 < X.1 9 (s * 100 + t)
      · rw [if_pos c, if_pos (h9.mp c)]
      · rw [if_neg c, if_neg (fun q => c (h9.mpr q))]
    · rw [i2]
      by_cases c : 0 < X.1 12 (s * 100 + t)
      · rw [if_pos c, if_pos ⟨hpos (w4.mp c), w4.mp c⟩]
      · rw [if_neg c, if_neg (fun q => c (w4.mpr q.2))]
