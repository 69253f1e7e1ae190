/-! THE LAYOUT BY PLACES: layCell over the layout's state as one value; steps -/
def JK (X : lS) : Prop := (∀ j, X.2.1 j < 61) ∧ (∀ v i, X.2.2.2.2.2.2.1 v i < 60) ∧ (∀ i, X.2.2.2.2.2.2.2.2 0 i < 60)
def CellX (a : Nat → Nat → Int32) (n : Nat) (spk : Nat → Int32) (s t : Int32) (ce : Nat) (X : lS) : Prop := CellOK a n spk s t ce (X.1 2) (X.1 3) (X.1 4) (X.1 5) X.2.1 (X.1 7) (X.1 8) (X.1 9) (X.1 10) (X.1 11) (X.1 12)
def LPost (a : Nat → Nat → Int32) (n : Nat) (spk : Nat → Int32) (s t : Int32) (ce : Nat) (X X' : lS) : Prop :=
  JK X' ∧ X'.1 1 = X.1 1 ∧ CellX a n spk s t ce X' ∧ (∀ x, ¬ (x < n ∧ rAt (a 7) (a 9) x s t) → X'.1 2 x = X.1 2 x ∧ X'.1 3 x = X.1 3 x ∧ X'.1 4 x = X.1 4 x ∧ X'.1 5 x = X.1 5 x ∧ X'.2.1 x = X.2.1 x) ∧ ∀ x, ¬ x = ce → X'.1 7 x = X.1 7 x ∧ X'.1 8 x = X.1 8 x ∧ X'.1 9 x = X.1 9 x ∧ X'.1 10 x = X.1 10 x ∧ X'.1 11 x = X.1 11 x ∧ X'.1 12 x = X.1 12 x
def kRow (f : Nat → (Nat → Int32) → (Nat → Int32)) (row : Nat → Int32) : Nat → Nat → Int32
  | 0 => row
  | v + 1 => f v (kRow f row v)
set_option maxHeartbeats 4000000 in
set_option maxRecDepth 100000 in
theorem k1_lay (l0 : Launch) (D : va_G) (c : Nat → Nat) (cA cC : ClassId) (sl : Prop) (X : lS) (n : Nat) (a : Nat → Nat → Int32) (fi ce sz : Nat) (spk : Nat → Int32) (hn : n ≤ 60) (hfn : fi < n) (hce : ce < 400) (hJ : JK X) (hb : ∀ k, k < n → spB (spk k)) (h1 : ∀ k, k < n → X.1 1 k = spk k) (hvo : ∀ k, k < n → a 8 k = nI 0 ∨ a 8 k = nI 1 ∨ a 8 k = nI 2) (hf0 : ∀ k, k < fi → ¬ rAt (a 7) (a 9) k (a 7 fi) (a 9 fi)) (hC : ∀ k, k < n → rAt (a 7) (a 9) k (a 7 fi) (a 9 fi) → X.2.1 k = 0) (h7 : X.1 7 ce = 8) (h8 : X.1 8 ce = 0) (h9 : X.1 9 ce = 0) (h10 : X.1 10 ce = 0) (h12 : X.1 12 ce = 0) :
    Met l0 yX1_layCell wsX1_layCell ({ frames := 4, cells := 0, slots := 0, locals := 96 }) (wPc D (lyX c cA cC sl X ++ noW c cA n a) [(cA, .int), (cC, .object "StaffHeads$Chord")] sz [.ref (c 14), .ref (c 7), .int (nI fi), .int (nI ce)]) (va_Qv (fun X' : lS => LPost a n spk (a 7 fi) (a 9 fi) ce X X') (wB D (lyX c cA cC sl X ++ noW c cA n a) sz (fun X' => lyX c cA cC sl X' ++ noW c cA n a)) (va_A (lyX c cA cC sl X ++ noW c cA n a) sz)) 0 0 (va_A (lyX c cA cC sl X ++ noW c cA n a) sz) := by
  obtain ⟨gz, hgz⟩ : ∃ z : Nat → Nat, z = fun v => rMany (a 7) (a 8) (a 9) (a 7 fi) (a 9 fi) (nI v) n := ⟨_, rfl⟩
  obtain ⟨gl, hgl⟩ : ∃ z : Nat → Int32, z = fun v => gLw (a 7) (a 8) (a 9) (X.1 1) (a 7 fi) (a 9 fi) (nI v) (X.2.2.2.1 0 v) n := ⟨_, rfl⟩
  obtain ⟨gh, hgh⟩ : ∃ z : Nat → Int32, z = fun v => gHg (a 7) (a 8) (a 9) (X.1 1) (a 7 fi) (a 9 fi) (nI v) (X.2.2.2.1 1 v) n := ⟨_, rfl⟩
  obtain ⟨go, hgo⟩ : ∃ z : Nat → Prop, z = fun v => gO (a 7) (a 8) (a 9) (a 12) (a 7 fi) (a 9 fi) (nI v) n := ⟨_, rfl⟩
  obtain ⟨gm, hgm⟩ : ∃ z : Nat → Nat → Nat, z = fun v => gM (a 7) (a 8) (a 9) (a 7 fi) (a 9 fi) (nI v) (X.2.2.2.2.2.2.1 v) n := ⟨_, rfl⟩
  obtain ⟨Z9, hZ9⟩ : ∃ z : Nat, z = rLeft (a 7) (a 9) (a 11) (a 7 fi) (a 9 fi) n := ⟨_, rfl⟩
  obtain ⟨B9, hB9⟩ : ∃ z : Nat → Nat, z = gB (a 7) (a 9) (a 11) (a 7 fi) (a 9 fi) (X.2.2.2.2.2.2.2.2 0) n := ⟨_, rfl⟩
  obtain ⟨r9, hr9⟩ : ∃ z : Nat → Int32, z = upd (X.1 9) ce (nI (rTot (a 7) (a 9) (a 7 fi) (a 9 fi) n)) := ⟨_, rfl⟩
  obtain ⟨uu, huu⟩ : ∃ z : Nat → Prop, z = fun v => cUp gz gl gh (X.2.2.2.2.1 1) v := ⟨_, rfl⟩
  obtain ⟨r2, hr2⟩ : ∃ z : Nat → Int32, z = cStm (cStm (cStm (X.1 2) (gm 0) (uu 0) (gz 0)) (gm 1) (uu 1) (gz 1)) (gm 2) (uu 2) (gz 2) := ⟨_, rfl⟩
  obtain ⟨r10, hr10⟩ : ∃ z : Nat → Int32, z = upd (X.1 10) ce (nI (cCnt gz 3)) := ⟨_, rfl⟩
  obtain ⟨tt, hok, hw⟩ := cell_laid (l3 := X.1 3) (l4 := X.1 4) (l5 := X.1 5) (C := X.2.1) (l7 := X.1 7) (l8 := X.1 8) (l11 := X.1 11) (l12 := X.1 12) (ce := ce) hgz hgl hgh hgo hgm hZ9 hB9 hr9 huu hr2 hr10 hn hvo hb h1 hJ.2.1 hC h7 h8 h12
  obtain ⟨mm, hmm⟩ : ∃ z : Nat → Nat → Nat, z = fun v => rSrt (gm v) (tt v) (gz v - 1) := ⟨_, rfl⟩
  obtain ⟨r3, hr3⟩ : ∃ z : Nat → Int32, z = cTurn (X.1 1) (mm 2) (uu 2) (cTurn (X.1 1) (mm 1) (uu 1) (cTurn (X.1 1) (mm 0) (uu 0) (X.1 3) (gz 0)) (gz 1)) (gz 2) := ⟨_, rfl⟩
  obtain ⟨hsp, d, g, r, d0, d1, d2, hn1, ho1, hn2, ho2, hr61, hsg, hfin⟩ := hw _ _ hmm hr3
  obtain ⟨k4, hk4, ek4⟩ : ∃ z : Nat → Nat → Int32, z 0 = X.1 4 ∧ ∀ v, v < 3 → z (v + 1) = cRow (z v) (mm v) (nI (d v)) (gz v) := ⟨kRow (fun v row => cRow row (mm v) (nI (d v)) (gz v)) (X.1 4), rfl, fun _ _ => rfl⟩
  obtain ⟨k5, hk5, ek5⟩ : ∃ z : Nat → Nat → Int32, z 0 = X.1 5 ∧ ∀ v, v < 3 → z (v + 1) = cRow (z v) (mm v) (nI (gz v)) (gz v) := ⟨kRow (fun v row => cRow row (mm v) (nI (gz v)) (gz v)) (X.1 5), rfl, fun _ _ => rfl⟩
  obtain ⟨k7, hk7, ek7⟩ : ∃ z : Nat → Nat → Int32, z 0 = X.1 7 ∧ ∀ v, v < 3 → z (v + 1) = if 0 < gz v then upd (z v) ce (mxI ((z v) ce) (cI (uu v ∧ ¬ go v) (mxI (gh v + 7) 4) (gh v))) else (z v) := ⟨kRow (fun v row => if 0 < gz v then upd row ce (mxI (row ce) (cI (uu v ∧ ¬ go v) (mxI (gh v + 7) 4) (gh v))) else row) (X.1 7), rfl, fun _ _ => rfl⟩
  obtain ⟨k8, hk8, ek8⟩ : ∃ z : Nat → Nat → Int32, z 0 = X.1 8 ∧ ∀ v, v < 3 → z (v + 1) = if 0 < gz v then upd (z v) ce (mnI ((z v) ce) (cI (¬ uu v ∧ ¬ go v) (mnI (gl v - 7) 4) (gl v))) else (z v) := ⟨kRow (fun v row => if 0 < gz v then upd row ce (mnI (row ce) (cI (¬ uu v ∧ ¬ go v) (mnI (gl v - 7) 4) (gl v))) else row) (X.1 8), rfl, fun _ _ => rfl⟩
  obtain ⟨k12, hk12, ek12⟩ : ∃ z : Nat → Nat → Int32, z 0 = X.1 12 ∧ ∀ v, v < 3 → z (v + 1) = if 0 < gz v then upd (z v) ce (mxI ((z v) ce) (nI (d v))) else (z v) := ⟨kRow (fun v row => if 0 < gz v then upd row ce (mxI (row ce) (nI (d v))) else row) (X.1 12), rfl, fun _ _ => rfl⟩
  have hq := hfin k4 k5 k7 k8 k12 hk4 ek4 hk5 ek5 hk7 ek7 hk8 ek8 hk12 ek12
  have hgm60 : ∀ v i, gm v i < 60 := fun v i => by rw [hgm]; exact gM_60 hn (hJ.2.1 v) i
  have hB60 : ∀ i, B9 i < 60 := fun i => by rw [hB9]; exact gB_60 hn hJ.2.2 i
  have hL := k1_layCell l0 D c cA cC sl (X.1 1) (X.1 2) (X.1 3) (X.1 4) (X.1 5) X.2.1 (X.1 7) (X.1 8) (X.1 9) (X.1 10) (X.1 11) (X.1 12) X.2.2.1 (X.2.2.2.1 0) (X.2.2.2.1 1) (X.2.2.2.2.1 0) (X.2.2.2.2.1 1) X.2.2.2.2.2.1 X.2.2.2.2.2.2.1 X.2.2.2.2.2.2.2.1 (X.2.2.2.2.2.2.2.2 0) (X.2.2.2.2.2.2.2.2 1) n a fi ce sz tt (d 1) (d 2) g r gz gl gh go gm Z9 B9 r9 uu r2 r10 mm r3 k4 k5 k7 k8 k12 hgz hgl hgh hgo hgm hZ9 hB9 hr9 huu hr2 hr10 hmm hr3 hk4 hk5 hk7 hk8 hk12 (by rw [ek4 0 (by omega), d0]) (ek5 0 (by omega)) (ek7 0 (by omega)) (ek8 0 (by omega)) (by rw [ek12 0 (by omega), d0]) (ek4 1 (by omega)) (ek5 1 (by omega)) (ek7 1 (by omega)) (ek8 1 (by omega)) (ek12 1 (by omega)) (ek4 2 (by omega)) (ek5 2 (by omega)) (ek7 2 (by omega)) (ek8 2 (by omega)) (ek12 2 (by omega)) hn hfn hce h9 h10 hf0 hvo hok hgm60 (fun v i j => rSrt_60 (hgm60 v) i j) (fun v i t j => rIns_60 (fun j => rSrt_60 (hgm60 v) i j) _ _ _) hsp d1 d2 hn1 ho1 hn2 ho2 hB60 hJ.1 hr61 hsg
  refine Met_imp hL ?_
  rintro args st oc tS ⟨⟨T', he, -, hB⟩, hF⟩
  refine ⟨⟨(fun i => if i = 1 then X.1 1 else if i = 2 then r2 else if i = 3 then r3 else if i = 4 then k4 3 else if i = 5 then k5 3 else if i = 7 then k7 3 else if i = 8 then k8 3 else if i = 9 then r9 else if i = 10 then r10 else if i = 11 then upd (X.1 11) ce (nI (cTop r Z9)) else k12 3, cSgn X.2.1 g r Z9, gz, fun i => if i = 0 then gl else gh, fun i => if i = 0 then go else uu, fun v => if v = 0 then 0 else d v, mm, Z9, fun i => if i = 0 then B9 else T'), he, ?_, hB⟩, hF⟩
  exact ⟨⟨fun j => cSgn_lt hJ.1 hr61 _ j, fun v i => by show mm v i < 60; rw [hmm]; exact rSrt_60 (hgm60 v) _ i, hB60⟩, rfl, hq.1, hq.2.1, hq.2.2⟩
