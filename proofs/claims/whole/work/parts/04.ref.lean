/-! THE REFERENCE'S WORLD: one object, sixteen rows. u: 0 thrown, 1 unit, 2 pad, 3 least, 4 hiding; n notes, m shifts; a: 1 kinds, 2 lines, 3 .. 6 shifts, 7 staves, 8 voices, 9 ticks, 10 numbers, 11 signs, 12 heads, 13 steps, 14 moved, 15 columns, 16 columns of signs -/
def mW (b : Nat → Nat) (cA : ClassId) (u : Nat → Int32) (n m : Nat) (a : Nat → Nat → Int32) : va_W :=
  [(b 0, .inr (6, [.int (u 0), .int (u 1), .ref (b 1), .ref (b 2), .int (nI m), .ref (b 3), .ref (b 4), .ref (b 5), .ref (b 6), .int (nI n), .ref (b 7), .ref (b 8), .ref (b 9), .ref (b 10), .ref (b 11), .ref (b 12), .int (u 2), .int (u 3), .int (u 4), .ref (b 13), .ref (b 14), .ref (b 15), .ref (b 16)])),
   (b 1, .inl (cA, 4, .inl (a 1))), (b 2, .inl (cA, 4, .inl (a 2))), (b 3, .inl (cA, 12, .inl (a 3))), (b 4, .inl (cA, 12, .inl (a 4))), (b 5, .inl (cA, 12, .inl (a 5))), (b 6, .inl (cA, 12, .inl (a 6))),
   (b 7, .inl (cA, 60, .inl (a 7))), (b 8, .inl (cA, 60, .inl (a 8))), (b 9, .inl (cA, 60, .inl (a 9))), (b 10, .inl (cA, 60, .inl (a 10))), (b 11, .inl (cA, 60, .inl (a 11))), (b 12, .inl (cA, 60, .inl (a 12))),
   (b 13, .inl (cA, 60, .inl (a 13))), (b 14, .inl (cA, 3, .inl (a 14))), (b 15, .inl (cA, 60, .inl (a 15))), (b 16, .inl (cA, 60, .inl (a 16)))]
section
variable {p : Program} {l : Launch} {e : Env} {R : Room} {s : State} {m : MethodId} {args : Array Value} {below : List Frame} {meth : Method} {c : Code} {H : Heap} {locs : List Loc} {cells slots : Nat} {Q : State → Prop} {cc : ByteArray} {pc : Nat} {ls : Array Slot} {rest : List Value}
theorem x_nge (hexec : p.tables.exec = Jvm.exec) (hb : c.code = cc) {x y : Nat} {off : Int} {tgt : Nat} (hdg : decode cc pc = .ok (.if_icmp .ge off, 3)) (ht : (pc : Int) + off = (tgt : Int)) (hx : x < 2 ^ 31) (hy : y < 2 ^ 31)
    (kt : y ≤ x → W p l e R s m args below meth c H locs cells slots Q (F0 m tgt ls rest)) (kf : x < y → W p l e R s m args below meth c H locs cells slots Q (F0 m (pc + 3) ls rest)) : W p l e R s m args below meth c H locs cells slots Q (F0 m pc ls (.int (nI y) :: .int (nI x) :: rest)) :=
  lv_icmp_ge hexec hb hdg ht (fun h => kt ((nI_leI hy hx).mp h)) (fun h => kf (Nat.lt_of_not_le (fun q => h ((nI_leI hy hx).mpr q))))
theorem x_ngt (hexec : p.tables.exec = Jvm.exec) (hb : c.code = cc) {x y : Nat} {off : Int} {tgt : Nat} (hdg : decode cc pc = .ok (.if_icmp .gt off, 3)) (ht : (pc : Int) + off = (tgt : Int)) (hx : x < 2 ^ 31) (hy : y < 2 ^ 31)
    (kt : y < x → W p l e R s m args below meth c H locs cells slots Q (F0 m tgt ls rest)) (kf : x ≤ y → W p l e R s m args below meth c H locs cells slots Q (F0 m (pc + 3) ls rest)) : W p l e R s m args below meth c H locs cells slots Q (F0 m pc ls (.int (nI y) :: .int (nI x) :: rest)) :=
  lv_icmp_gt hexec hb hdg ht (fun h => kt ((nI_ltI hy hx).mp h)) (fun h => kf (Nat.le_of_not_lt (fun q => h ((nI_ltI hy hx).mpr q))))
theorem x_nle (hexec : p.tables.exec = Jvm.exec) (hb : c.code = cc) {x y : Nat} {off : Int} {tgt : Nat} (hdg : decode cc pc = .ok (.if_icmp .le off, 3)) (ht : (pc : Int) + off = (tgt : Int)) (hx : x < 2 ^ 31) (hy : y < 2 ^ 31)
    (kt : x ≤ y → W p l e R s m args below meth c H locs cells slots Q (F0 m tgt ls rest)) (kf : y < x → W p l e R s m args below meth c H locs cells slots Q (F0 m (pc + 3) ls rest)) : W p l e R s m args below meth c H locs cells slots Q (F0 m pc ls (.int (nI y) :: .int (nI x) :: rest)) :=
  lv_icmp_le hexec hb hdg ht (fun h => kt ((nI_leI hx hy).mp h)) (fun h => kf (Nat.lt_of_not_le (fun q => h ((nI_leI hx hy).mpr q))))
theorem x_nlt (hexec : p.tables.exec = Jvm.exec) (hb : c.code = cc) {x y : Nat} {off : Int} {tgt : Nat} (hdg : decode cc pc = .ok (.if_icmp .lt off, 3)) (ht : (pc : Int) + off = (tgt : Int)) (hx : x < 2 ^ 31) (hy : y < 2 ^ 31)
    (kt : x < y → W p l e R s m args below meth c H locs cells slots Q (F0 m tgt ls rest)) (kf : y ≤ x → W p l e R s m args below meth c H locs cells slots Q (F0 m (pc + 3) ls rest)) : W p l e R s m args below meth c H locs cells slots Q (F0 m pc ls (.int (nI y) :: .int (nI x) :: rest)) :=
  lv_icmp_lt hexec hb hdg ht (fun h => kt ((nI_ltI hx hy).mp h)) (fun h => kf (Nat.le_of_not_lt (fun q => h ((nI_ltI hx hy).mpr q))))
theorem x_neq (hexec : p.tables.exec = Jvm.exec) (hb : c.code = cc) {x y : Nat} {off : Int} {tgt : Nat} (hdg : decode cc pc = .ok (.if_icmp .eq off, 3)) (ht : (pc : Int) + off = (tgt : Int)) (hx : x < 2 ^ 31) (hy : y < 2 ^ 31)
    (kt : x = y → W p l e R s m args below meth c H locs cells slots Q (F0 m tgt ls rest)) (kf : ¬ x = y → W p l e R s m args below meth c H locs cells slots Q (F0 m (pc + 3) ls rest)) : W p l e R s m args below meth c H locs cells slots Q (F0 m pc ls (.int (nI y) :: .int (nI x) :: rest)) :=
  lv_icmp_eq hexec hb hdg ht (fun h => kt ((nI_eq hx hy).mp h)) (fun h => kf (fun q => h ((nI_eq hx hy).mpr q)))
theorem x_nne (hexec : p.tables.exec = Jvm.exec) (hb : c.code = cc) {x y : Nat} {off : Int} {tgt : Nat} (hdg : decode cc pc = .ok (.if_icmp .ne off, 3)) (ht : (pc : Int) + off = (tgt : Int)) (hx : x < 2 ^ 31) (hy : y < 2 ^ 31)
    (kt : ¬ x = y → W p l e R s m args below meth c H locs cells slots Q (F0 m tgt ls rest)) (kf : x = y → W p l e R s m args below meth c H locs cells slots Q (F0 m (pc + 3) ls rest)) : W p l e R s m args below meth c H locs cells slots Q (F0 m pc ls (.int (nI y) :: .int (nI x) :: rest)) :=
  lv_icmp_ne hexec hb hdg ht (fun h => kt (fun q => h ((nI_eq hx hy).mpr q))) (fun h => kf ((nI_eq hx hy).mp h))
theorem x_ige (hexec : p.tables.exec = Jvm.exec) (hb : c.code = cc) {x y : Int32} {off : Int} {tgt : Nat} (hdg : decode cc pc = .ok (.if_icmp .ge off, 3)) (ht : (pc : Int) + off = (tgt : Int))
    (kt : ¬ x < y → W p l e R s m args below meth c H locs cells slots Q (F0 m tgt ls rest)) (kf : x < y → W p l e R s m args below meth c H locs cells slots Q (F0 m (pc + 3) ls rest)) : W p l e R s m args below meth c H locs cells slots Q (F0 m pc ls (.int y :: .int x :: rest)) :=
  lv_icmp_ge hexec hb hdg ht (fun h => kt (Int32.not_lt.mpr h)) (fun h => kf (Int32.not_le.mp h))
theorem x_ile (hexec : p.tables.exec = Jvm.exec) (hb : c.code = cc) {x y : Int32} {off : Int} {tgt : Nat} (hdg : decode cc pc = .ok (.if_icmp .le off, 3)) (ht : (pc : Int) + off = (tgt : Int))
    (kt : ¬ y < x → W p l e R s m args below meth c H locs cells slots Q (F0 m tgt ls rest)) (kf : y < x → W p l e R s m args below meth c H locs cells slots Q (F0 m (pc + 3) ls rest)) : W p l e R s m args below meth c H locs cells slots Q (F0 m pc ls (.int y :: .int x :: rest)) :=
  lv_icmp_le hexec hb hdg ht (fun h => kt (Int32.not_lt.mpr h)) (fun h => kf (Int32.not_le.mp h))
theorem x_cge (hexec : p.tables.exec = Jvm.exec) (hb : c.code = cc) {x : Int32} {off : Int} {tgt : Nat} (hdg : decode cc pc = .ok (.ifCond .ge off, 3)) (ht : (pc : Int) + off = (tgt : Int))
    (kt : ¬ x < 0 → W p l e R s m args below meth c H locs cells slots Q (F0 m tgt ls rest)) (kf : x < 0 → W p l e R s m args below meth c H locs cells slots Q (F0 m (pc + 3) ls rest)) : W p l e R s m args below meth c H locs cells slots Q (F0 m pc ls (.int x :: rest)) :=
  lv_if_ge hexec hb hdg ht (fun h => kt (Int32.not_lt.mpr h)) (fun h => kf (Int32.not_le.mp h))
theorem x_cle (hexec : p.tables.exec = Jvm.exec) (hb : c.code = cc) {x : Int32} {off : Int} {tgt : Nat} (hdg : decode cc pc = .ok (.ifCond .le off, 3)) (ht : (pc : Int) + off = (tgt : Int))
    (kt : ¬ 0 < x → W p l e R s m args below meth c H locs cells slots Q (F0 m tgt ls rest)) (kf : 0 < x → W p l e R s m args below meth c H locs cells slots Q (F0 m (pc + 3) ls rest)) : W p l e R s m args below meth c H locs cells slots Q (F0 m pc ls (.int x :: rest)) :=
  lv_if_le hexec hb hdg ht (fun h => kt (Int32.not_lt.mpr h)) (fun h => kf (Int32.not_le.mp h))
/-- where roads meet: the rest is walked once -/
theorem x_join {g : JFrame} (nL : Nat) (lo : List (Nat × Value)) (J : Nat) (stk : List Value) (h1 : ∀ ls : Array Slot, lv_has ls nL lo → W p l e R s m args below meth c H locs cells slots Q (F0 m J ls stk))
    (h2 : (∀ ls : Array Slot, lv_has ls nL lo → W p l e R s m args below meth c H locs cells slots Q (F0 m J ls stk)) → W p l e R s m args below meth c H locs cells slots Q g) : W p l e R s m args below meth c H locs cells slots Q g := h2 h1
theorem x_joinW {g : JFrame} {D : va_G} {A : Nat → Prop} {H0 : Heap} (nL : Nat) (lo : List (Nat × Value)) (wd : va_W) (J : Nat) (stk : List Value) (h1 : ∀ (ls : Array Slot) (H : Heap) (locs : List Loc), lv_has ls nL lo → va_P D vwCl wd H → va_D A wd → va_S A H0 H locs → W p l e R s m args below meth c H locs cells slots Q (F0 m J ls stk))
    (h2 : (∀ (ls : Array Slot) (H : Heap) (locs : List Loc), lv_has ls nL lo → va_P D vwCl wd H → va_D A wd → va_S A H0 H locs → W p l e R s m args below meth c H locs cells slots Q (F0 m J ls stk)) → W p l e R s m args below meth c H locs cells slots Q g) : W p l e R s m args below meth c H locs cells slots Q g := h2 h1
end
theorem lv_cast {ls : Array Slot} {nL : Nat} {l l' : List (Nat × Value)} (h : lv_has ls nL l) (e : l = l') : lv_has ls nL l' := e ▸ h
theorem x_dec (k : Nat) : nI (k + 1) + Int32.ofInt (-1) = nI k := pk_m1 k
/-! what the reference reckons, by rows: st staves, vo voices, ti ticks, sp steps -/
abbrev rAt (st ti : Nat → Int32) (k : Nat) (s t : Int32) : Prop := st k = s ∧ ti k = t
abbrev rIn (st vo ti : Nat → Int32) (k : Nat) (s t v : Int32) : Prop := (st k = s ∧ ti k = t) ∧ vo k = v
def rMany (st vo ti : Nat → Int32) (s t v : Int32) : Nat → Nat
  | 0 => 0
  | k + 1 => rMany st vo ti s t v k + (if rIn st vo ti k s t v then 1 else 0)
def rEnd (st vo ti sp : Nat → Int32) (s t v : Int32) (hi : Prop) [Decidable hi] : Nat → Int32
  | 0 => if hi then -1000 else 1000
  | k + 1 => if rIn st vo ti k s t v then (if (hi ↔ rEnd st vo ti sp s t v hi k < sp k) then sp k else rEnd st vo ti sp s t v hi k) else rEnd st vo ti sp s t v hi k
theorem rMany_le (st vo ti : Nat → Int32) (s t v : Int32) (k : Nat) : rMany st vo ti s t v k ≤ k := by
  induction k with
  | zero => exact Nat.le_refl 0
  | succ k ih => unfold rMany; split <;> omega
def rLes (st vo ti : Nat → Int32) (n : Nat) (s t w : Int32) : Nat → Nat
  | 0 => 0
  | v + 1 => rLes st vo ti n s t w v + (if nI v < w then rMany st vo ti s t (nI v) n else 0)
def rGre (st vo ti : Nat → Int32) (n : Nat) (s t w : Int32) : Nat → Nat
  | 0 => 0
  | v + 1 => rGre st vo ti n s t w v + (if w < nI v then rMany st vo ti s t (nI v) n else 0)
theorem rLes_le (st vo ti : Nat → Int32) (n : Nat) (s t w : Int32) (v : Nat) : rLes st vo ti n s t w v ≤ v * n := by
  induction v with
  | zero => simp [rLes]
  | succ v ih =>
    have := rMany_le st vo ti s t (nI v) n
    unfold rLes
    rw [Nat.succ_mul]
    split <;> omega
theorem rGre_le (st vo ti : Nat → Int32) (n : Nat) (s t w : Int32) (v : Nat) : rGre st vo ti n s t w v ≤ v * n := by
  induction v with
  | zero => simp [rGre]
  | succ v ih =>
    have := rMany_le st vo ti s t (nI v) n
    unfold rGre
    rw [Nat.succ_mul]
    split <;> omega
/-- the stem goes up -/
abbrev rUp (st vo ti sp : Nat → Int32) (n : Nat) (s t w : Int32) : Prop := (0 < rLes st vo ti n s t w 3 + rGre st vo ti n s t w 3 ∧ rLes st vo ti n s t w 3 = 0) ∨ (rLes st vo ti n s t w 3 + rGre st vo ti n s t w 3 = 0 ∧ rEnd st vo ti sp s t w True n - 4 < 4 - rEnd st vo ti sp s t w False n)
abbrev rAhead (sp : Nat → Int32) (x y : Nat) (up : Prop) : Prop := (sp x - sp y = 0 ∧ x < y) ∨ (¬ sp x - sp y = 0 ∧ (up ↔ sp x - sp y < 0))
def rClef (kd : Int32) : Int32 := if kd = 0 then 32 else if kd = 1 then 28 else 24
def rOct (s3 s4 s5 s6 : Nat → Int32) (s t : Int32) : Nat → Int32
  | 0 => 0
  | k + 1 => rOct s3 s4 s5 s6 s t k + (if s3 k = s ∧ (¬ t < s4 k ∧ ¬ s5 k < t) then s6 k else 0)
/-- the step of a note of number nu at staff j, by the clef and the shifts -/
def rStep (s1 s2 s3 s4 s5 s6 : Nat → Int32) (m j : Nat) (t nu : Int32) : Int32 := nu - rClef (s1 j) + 2 * s2 j - 2 - 7 * rOct s3 s4 s5 s6 (nI j) t m
/-- the staff is hidden: hiding, not the first, no note there -/
def rHid (st : Nat → Int32) (h : Prop) (s : Int32) : Nat → Prop
  | 0 => h ∧ 0 < s
  | k + 1 => rHid st h s k ∧ ¬ st k = s
theorem rHid_iff (st : Nat → Int32) (h : Prop) (s : Int32) (n : Nat) : rHid st h s n ↔ (h ∧ 0 < s) ∧ ∀ k, k < n → ¬ st k = s := by
  induction n with
  | zero => simp [rHid]
  | succ n ih =>
    unfold rHid
    rw [ih]
    constructor
    · rintro ⟨⟨h1, h2⟩, h3⟩
      refine ⟨h1, fun k hk => ?_⟩
      rcases Nat.lt_succ_iff_lt_or_eq.mp hk with q | q
      · exact h2 k q
      · rw [q]; exact h3
    · rintro ⟨h1, h2⟩
      exact ⟨⟨h1, fun k hk => h2 k (by omega)⟩, h2 n (by omega)⟩
def mxI (h x : Int32) : Int32 := if h < x then x else h
def mnI (h x : Int32) : Int32 := if x < h then x else h
def rHigh (st vo ti sp he : Nat → Int32) (n : Nat) (s t : Int32) : Nat → Int32
  | 0 => 8
  | k + 1 => if rAt st ti k s t then (if ¬ he k = 0 ∧ rUp st vo ti sp n (st k) (ti k) (vo k) then mxI (mxI (rHigh st vo ti sp he n s t k) (sp k)) (rEnd st vo ti sp s t (vo k) True n + 7) else mxI (rHigh st vo ti sp he n s t k) (sp k)) else rHigh st vo ti sp he n s t k
def rLow (st vo ti sp he : Nat → Int32) (n : Nat) (s t : Int32) : Nat → Int32
  | 0 => 0
  | k + 1 => if rAt st ti k s t then (if ¬ he k = 0 ∧ ¬ rUp st vo ti sp n (st k) (ti k) (vo k) then mnI (mnI (rLow st vo ti sp he n s t k) (sp k)) (rEnd st vo ti sp s t (vo k) False n - 7) else mnI (rLow st vo ti sp he n s t k) (sp k)) else rLow st vo ti sp he n s t k
abbrev rFirst (st ti : Nat → Int32) (k : Nat) (s u : Int32) : Prop := ∀ q, q < k → ¬ (ti q = ti k ∧ (st q = s ∨ st q = u))
abbrev rHidA (st : Nat → Int32) (h : Int32) (s : Int32) (n : Nat) : Prop := (¬ h = 0 ∧ 0 < s) ∧ ∀ k, k < n → ¬ st k = s
/-- the next staff above, from j on, that is not hidden -/
def rUpr (st : Nat → Int32) (h : Int32) (n : Nat) : Nat → Nat
  | 0 => 0
  | j + 1 => if rHidA st h (nI (j + 1)) n then rUpr st h n j else j + 1
theorem rUpr_le (st : Nat → Int32) (h : Int32) (n j : Nat) : rUpr st h n j ≤ j := by
  induction j with
  | zero => exact Nat.le_refl 0
  | succ j ih => unfold rUpr; split <;> omega
def rGap (st vo ti sp he : Nat → Int32) (n : Nat) (s u pad least : Int32) : Nat → Int32
  | 0 => mxI pad least
  | k + 1 => if (st k = s ∨ st k = u) ∧ rFirst st ti k s u then mxI (rGap st vo ti sp he n s u pad least k) (rHigh st vo ti sp he n s (ti k) n - 8 - rLow st vo ti sp he n u (ti k) n + pad) else rGap st vo ti sp he n s u pad least k
/-- the gap above the staff j + 1 -/
def rGapA (st vo ti sp he : Nat → Int32) (n : Nat) (pad least h : Int32) (j : Nat) : Int32 := rGap st vo ti sp he n (nI (j + 1)) (nI (rUpr st h n j)) pad least n
def rPl (st vo ti sp he : Nat → Int32) (n : Nat) (pad least h : Int32) : Nat → Int64
  | 0 => 0
  | j + 1 => rPl st vo ti sp he n pad least h j + (if rHidA st h (nI (j + 1)) n then 0 else (rGapA st vo ti sp he n pad least h j + 8).toInt64)
abbrev rSh (st vo ti sp he si : Nat → Int32) (n x y : Nat) : Prop := rAt st ti y (st x) (ti x) ∧ sp x = sp y ∧ he x = he y ∧ si x = si y ∧ ¬ bv (rUp st vo ti sp n (st x) (ti x) (vo x)) = bv (rUp st vo ti sp n (st y) (ti y) (vo y))
abbrev rPair (st vo ti sp he si co : Nat → Int32) (n : Nat) (s t v : Int32) (x y : Nat) : Prop := rIn st vo ti x s t v ∧ rAt st ti y s t ∧ vo y < v ∧ co x = co y ∧ ¬ sp x - sp y < -1 ∧ ¬ 1 < sp x - sp y ∧ ¬ rSh st vo ti sp he si n x y
abbrev rOver (st vo ti sp he si co : Nat → Int32) (n : Nat) (s t v : Int32) : Prop := ¬ ∀ x, x < n → ∀ y, y < n → ¬ rPair st vo ti sp he si co n s t v x y
theorem mxI_t {h x : Int32} (c : h < x) : mxI h x = x := if_pos c
theorem mxI_f {h x : Int32} (c : ¬ h < x) : mxI h x = h := if_neg c
theorem mnI_t {h x : Int32} (c : x < h) : mnI h x = x := if_pos c
theorem mnI_f {h x : Int32} (c : ¬ x < h) : mnI h x = h := if_neg c
/-! the order of a chord's heads, as the reference finds it -/
def enc (o : Option Nat) : Int32 := match o with
  | none => -1000
  | some j => nI j
def rAhB (sp : Nat → Int32) (la : Option Nat) (x : Nat) (up : Prop) [Decidable up] : Bool := match la with
  | none => true
  | some i => decide (rAhead sp i x up)
def rAhC (sp : Nat → Int32) (x : Nat) (o : Option Nat) (up : Prop) [Decidable up] : Bool := match o with
  | none => true
  | some j => decide (rAhead sp x j up)
def rNxt (st vo ti sp : Nat → Int32) (s t v : Int32) (up : Prop) [Decidable up] (la : Option Nat) : Nat → Option Nat
  | 0 => none
  | x + 1 => if (rIn st vo ti x s t v ∧ rAhB sp la x up = true) ∧ rAhC sp x (rNxt st vo ti sp s t v up la x) up = true then some x else rNxt st vo ti sp s t v up la x
theorem rNxt_lt {st vo ti sp : Nat → Int32} {s t v : Int32} {up : Prop} [Decidable up] {la : Option Nat} {n j : Nat} (h : rNxt st vo ti sp s t v up la n = some j) : j < n ∧ rIn st vo ti j s t v := by
  induction n with
  | zero => cases h
  | succ n ih =>
    unfold rNxt at h
    split at h
    · rename_i c
      cases h
      exact ⟨Nat.lt_succ_self _, c.1.1⟩
    · exact ⟨Nat.lt_succ_of_lt (ih h).1, (ih h).2⟩
def rPrev (f : Nat → Nat) : Nat → Option Nat
  | 0 => none
  | i + 1 => some (f i)
def rAsd (sp : Nat → Int32) (f : Nat → Nat) : Nat → Bool
  | 0 => false
  | i + 1 => decide (¬ sp (f (i + 1)) - sp (f i) < -1) && decide (¬ 1 < sp (f (i + 1)) - sp (f i)) && !rAsd sp f i
def rAsP (sp : Nat → Int32) (f : Nat → Nat) : Nat → Bool
  | 0 => false
  | i + 1 => rAsd sp f i
/-- f goes through the chord of the note k in its order, and k is the q-th -/
def rEnum (st vo ti sp : Nat → Int32) (n : Nat) (s t v : Int32) (up : Prop) [Decidable up] (f : Nat → Nat) (q k : Nat) : Prop := f q = k ∧ (∀ i, i < q → ¬ f i = k) ∧ ∀ i, i ≤ q → rNxt st vo ti sp s t v up (rPrev f i) n = some (f i)
/-- what 'aside' answers, by such a road -/
def rAsV (sp : Nat → Int32) (f : Nat → Nat) (q : Nat) (up : Prop) [Decidable up] : Int32 := if rAsd sp f q = true then (if up then 1 else -1) else 0
theorem enc_none {o : Option Nat} {n : Nat} (hn : n ≤ 60) (ho : ∀ j, o = some j → j < n) : enc o = -1000 ↔ o = none := by
  cases o with
  | none => simp [enc]
  | some j =>
    constructor
    · intro h
      have h1 : (nI j).toInt = (-1000 : Int32).toInt := by rw [← h]; rfl
      rw [nI_toInt (by have := ho j rfl; omega)] at h1
      exact absurd h1 (by have h2 : (-1000 : Int32).toInt = -1000 := by decide
                          rw [h2]; omega)
    · intro h; cases h
theorem nI_nm {j : Nat} (h : j < 60) : ¬ nI j = -1000 := by
  intro q
  have h1 : (nI j).toInt = (-1000 : Int32).toInt := by rw [q]
  rw [nI_toInt (by omega), show (-1000 : Int32).toInt = -1000 by decide] at h1
  omega
/-! columns of signs -/
abbrev rMat (st ti sp si sc : Nat → Int32) (s t : Int32) (x k : Nat) : Prop := rAt st ti k s t ∧ 0 < sc k ∧ sp k = sp x ∧ si k = si x
abbrev rTak (st ti sp sc : Nat → Int32) (s t : Int32) (x : Nat) (c : Int32) (k : Nat) : Prop := rAt st ti k s t ∧ sc k = c ∧ -6 < sp k - sp x ∧ sp k - sp x < 6
abbrev rFree (st ti sp sc : Nat → Int32) (n : Nat) (s t : Int32) (x : Nat) (c : Int32) : Prop := ∀ k, k < n → ¬ rTak st ti sp sc s t x c k
/-- the column that the sign of x gets -/
def rColFor (st ti sp si sc : Nat → Int32) (n : Nat) (s t : Int32) (x : Nat) (r : Int32) : Prop :=
  (∃ k, k < n ∧ rMat st ti sp si sc s t x k ∧ (∀ z, z < k → ¬ rMat st ti sp si sc s t x z) ∧ r = sc k) ∨
  ((∀ z, z < n → ¬ rMat st ti sp si sc s t x z) ∧ ∃ d, d < 100 ∧ r = nI (d + 1) ∧ rFree st ti sp sc n s t x (nI (d + 1)) ∧ ∀ c, c < d → ¬ rFree st ti sp sc n s t x (nI (c + 1)))
abbrev rCan (st ti si sc : Nat → Int32) (s t : Int32) (k : Nat) : Prop := rAt st ti k s t ∧ ¬ si k = 3 ∧ sc k = 0
def rBet (sp : Nat → Int32) (ev : Prop) [Decidable ev] (k : Nat) (o : Option Nat) : Bool := match o with
  | none => true
  | some j => if ev then decide (sp j < sp k) else decide (sp k < sp j)
def rPick (st ti sp si sc : Nat → Int32) (s t : Int32) (ev : Prop) [Decidable ev] : Nat → Option Nat
  | 0 => none
  | k + 1 => if rCan st ti si sc s t k ∧ rBet sp ev k (rPick st ti sp si sc s t ev k) = true then some k else rPick st ti sp si sc s t ev k
theorem rPick_lt {st ti sp si sc : Nat → Int32} {s t : Int32} {ev : Prop} [Decidable ev] {n j : Nat} (h : rPick st ti sp si sc s t ev n = some j) : j < n ∧ rCan st ti si sc s t j := by
  induction n with
  | zero => cases h
  | succ n ih =>
    unfold rPick at h
    split at h
    · rename_i c
      cases h
      exact ⟨Nat.lt_succ_self _, c.1⟩
    · exact ⟨Nat.lt_succ_of_lt (ih h).1, (ih h).2⟩
def rZero (sc : Nat → Int32) : Nat → (Nat → Int32)
  | 0 => sc
  | k + 1 => upd (rZero sc k) k 0
def rLeft (st ti si : Nat → Int32) (s t : Int32) : Nat → Nat
  | 0 => 0
  | k + 1 => rLeft st ti si s t k + (if rAt st ti k s t ∧ ¬ si k = 3 then 1 else 0)
theorem rLeft_le (st ti si : Nat → Int32) (s t : Int32) (k : Nat) : rLeft st ti si s t k ≤ k := by
  induction k with
  | zero => exact Nat.le_refl 0
  | succ k ih => unfold rLeft; split <;> omega
def rSgn (sc : Nat → Int32) (g : Nat → Nat) (r : Nat → Int32) : Nat → (Nat → Int32)
  | 0 => sc
  | i + 1 => upd (rSgn sc g r i) (g i) (r i)
/-- g and r go through the signs of a place in their order -/
def rSigns (st ti sp si sc : Nat → Int32) (n : Nat) (s t : Int32) (g : Nat → Nat) (r : Nat → Int32) : Prop := ∀ i, i < rLeft st ti si s t n → rPick st ti sp si (rSgn sc g r i) s t (i % 2 = 0) n = some (g i) ∧ rColFor st ti sp si (rSgn sc g r i) n s t (g i) (r i)
/-! chords moved -/
def rCSet (st vo ti : Nat → Int32) (s t v : Int32) (co as : Nat → Int32) : Nat → (Nat → Int32)
  | 0 => co
  | x + 1 => if rIn st vo ti x s t v then upd (rCSet st vo ti s t v co as x) x (as x) else rCSet st vo ti s t v co as x
def rCAdd (st vo ti : Nat → Int32) (s t v : Int32) (co : Nat → Int32) : Nat → (Nat → Int32)
  | 0 => co
  | x + 1 => upd (rCAdd st vo ti s t v co x) x (rCAdd st vo ti s t v co x x + (if rIn st vo ti x s t v then 1 else 0))
def rCIt (st vo ti : Nat → Int32) (s t v : Int32) (n : Nat) (co : Nat → Int32) : Nat → (Nat → Int32)
  | 0 => co
  | i + 1 => rCAdd st vo ti s t v (rCIt st vo ti s t v n co i) n
/-- the columns behind the first v voices, moved by d -/
def rCol (st vo ti : Nat → Int32) (s t : Int32) (n : Nat) (co as : Nat → Int32) (d : Nat → Nat) : Nat → (Nat → Int32)
  | 0 => co
  | v + 1 => rCIt st vo ti s t (nI v) n (rCSet st vo ti s t (nI v) (rCol st vo ti s t n co as d v) as n) (d v)
def rMvB (mv : Nat → Int32) (d : Nat → Nat) : Nat → (Nat → Int32)
  | 0 => mv
  | v + 1 => upd (rMvB mv d v) v (nI (d v))
/-- d are the least numbers that clear each voice of the lesser ones -/
def rMoves (st vo ti sp he si : Nat → Int32) (n : Nat) (s t : Int32) (co as : Nat → Int32) (d : Nat → Nat) : Prop := ∀ v, v < 3 → d v < 100 ∧ ¬ rOver st vo ti sp he si (rCol st vo ti s t n co as d (v + 1)) n s t (nI v) ∧ ∀ i, i < d v → rOver st vo ti sp he si (rCIt st vo ti s t (nI v) n (rCSet st vo ti s t (nI v) (rCol st vo ti s t n co as d v) as n) i) n s t (nI v)
/-- as x is what 'aside' answers of each note x of the place -/
def rAsides (st vo ti sp : Nat → Int32) (n : Nat) (s t : Int32) (as : Nat → Int32) : Prop := ∀ x, x < n → rAt st ti x s t → ∃ (f : Nat → Nat) (q : Nat), q < n ∧ rEnum st vo ti sp n s t (vo x) (rUp st vo ti sp n s t (vo x)) f q x ∧ as x = rAsV sp f q (rUp st vo ti sp n s t (vo x))
theorem upd_same (f : Nat → Int32) (k : Nat) (x y : Int32) : upd (upd f k x) k y = upd f k y := by
  funext j
  unfold upd
  split <;> rfl
def rSpK (s1 s2 s3 s4 s5 s6 : Nat → Int32) (m : Nat) (st ti nu : Nat → Int32) (k : Nat) : Int32 := rStep s1 s2 s3 s4 s5 s6 m ((st k).toNatClampNeg) (ti k) (nu k)
/-- the row of steps behind the first k notes -/
def rRk (s1 s2 s3 s4 s5 s6 : Nat → Int32) (m : Nat) (st ti nu sp : Nat → Int32) : Nat → (Nat → Int32)
  | 0 => sp
  | k + 1 => upd (rRk s1 s2 s3 s4 s5 s6 m st ti nu sp k) k (rSpK s1 s2 s3 s4 s5 s6 m st ti nu k)
theorem staff_nat {x : Int32} {j : Nat} (hj : j < 4) (h : x = nI j) : x = nI (x.toNatClampNeg) ∧ x.toNatClampNeg < 4 := by
  rw [h, nI_clamp (by omega)]
  exact ⟨rfl, hj⟩
theorem rMany_t {st vo ti : Nat → Int32} {s t v : Int32} {k : Nat} (h : rIn st vo ti k s t v) : rMany st vo ti s t v (k + 1) = rMany st vo ti s t v k + 1 := by rw [rMany, if_pos h]
theorem rMany_f {st vo ti : Nat → Int32} {s t v : Int32} {k : Nat} (h : ¬ rIn st vo ti k s t v) : rMany st vo ti s t v (k + 1) = rMany st vo ti s t v k := by rw [rMany, if_neg h, Nat.add_zero]
theorem rEnd_n {st vo ti sp : Nat → Int32} {s t v : Int32} {hi : Prop} [Decidable hi] {k : Nat} (h : ¬ rIn st vo ti k s t v) : rEnd st vo ti sp s t v hi (k + 1) = rEnd st vo ti sp s t v hi k := by rw [rEnd, if_neg h]
theorem rEnd_s {st vo ti sp : Nat → Int32} {s t v : Int32} {hi : Prop} [Decidable hi] {k : Nat} (h : rIn st vo ti k s t v) (c : hi ↔ rEnd st vo ti sp s t v hi k < sp k) : rEnd st vo ti sp s t v hi (k + 1) = sp k := by rw [rEnd, if_pos h, if_pos c]
theorem rEnd_o {st vo ti sp : Nat → Int32} {s t v : Int32} {hi : Prop} [Decidable hi] {k : Nat} (h : rIn st vo ti k s t v) (c : ¬ (hi ↔ rEnd st vo ti sp s t v hi k < sp k)) : rEnd st vo ti sp s t v hi (k + 1) = rEnd st vo ti sp s t v hi k := by rw [rEnd, if_pos h, if_neg c]
theorem rHigh_n {st vo ti sp he : Nat → Int32} {n : Nat} {s t : Int32} {k : Nat} (h : ¬ rAt st ti k s t) : rHigh st vo ti sp he n s t (k + 1) = rHigh st vo ti sp he n s t k := by rw [rHigh, if_neg h]
theorem rHigh_1 {st vo ti sp he : Nat → Int32} {n : Nat} {s t : Int32} {k : Nat} (h : rAt st ti k s t) (c : ¬ (¬ he k = 0 ∧ rUp st vo ti sp n (st k) (ti k) (vo k))) : rHigh st vo ti sp he n s t (k + 1) = mxI (rHigh st vo ti sp he n s t k) (sp k) := by rw [rHigh, if_pos h, if_neg c]
theorem rHigh_2 {st vo ti sp he : Nat → Int32} {n : Nat} {s t : Int32} {k : Nat} (h : rAt st ti k s t) (c : ¬ he k = 0 ∧ rUp st vo ti sp n (st k) (ti k) (vo k)) : rHigh st vo ti sp he n s t (k + 1) = mxI (mxI (rHigh st vo ti sp he n s t k) (sp k)) (rEnd st vo ti sp s t (vo k) True n + 7) := by rw [rHigh, if_pos h, if_pos c]
theorem rLow_n {st vo ti sp he : Nat → Int32} {n : Nat} {s t : Int32} {k : Nat} (h : ¬ rAt st ti k s t) : rLow st vo ti sp he n s t (k + 1) = rLow st vo ti sp he n s t k := by rw [rLow, if_neg h]
theorem rLow_1 {st vo ti sp he : Nat → Int32} {n : Nat} {s t : Int32} {k : Nat} (h : rAt st ti k s t) (c : ¬ (¬ he k = 0 ∧ ¬ rUp st vo ti sp n (st k) (ti k) (vo k))) : rLow st vo ti sp he n s t (k + 1) = mnI (rLow st vo ti sp he n s t k) (sp k) := by rw [rLow, if_pos h, if_neg c]
theorem rLow_2 {st vo ti sp he : Nat → Int32} {n : Nat} {s t : Int32} {k : Nat} (h : rAt st ti k s t) (c : ¬ he k = 0 ∧ ¬ rUp st vo ti sp n (st k) (ti k) (vo k)) : rLow st vo ti sp he n s t (k + 1) = mnI (mnI (rLow st vo ti sp he n s t k) (sp k)) (rEnd st vo ti sp s t (vo k) False n - 7) := by rw [rLow, if_pos h, if_pos c]
theorem iff_tt {P Q : Prop} (p : P) (q : Q) : P ↔ Q := ⟨fun _ => q, fun _ => p⟩
theorem iff_ff {P Q : Prop} (p : ¬ P) (q : ¬ Q) : P ↔ Q := ⟨fun h => absurd h p, fun h => absurd h q⟩
theorem iff_tf {P Q : Prop} (p : P) (q : ¬ Q) : ¬ (P ↔ Q) := fun h => q (h.mp p)
theorem iff_ft {P Q : Prop} (p : ¬ P) (q : Q) : ¬ (P ↔ Q) := fun h => p (h.mpr q)
theorem bv_n0 {P : Prop} (h : ¬ bv P = 0) : P := Classical.not_not.mp (fun q => h (bv_eq0.mpr q))
theorem bv_n1 {P : Prop} (h : ¬ bv P = 1) : ¬ P := fun q => h (bv_eq1.mpr q)
theorem rAsd_t {sp : Nat → Int32} {f : Nat → Nat} {i : Nat} (c1 : ¬ sp (f (i + 1)) - sp (f i) < -1) (c2 : ¬ 1 < sp (f (i + 1)) - sp (f i)) (c3 : ¬ rAsd sp f i = true) : rAsd sp f (i + 1) = true := by
  simp only [rAsd, Bool.and_eq_true, decide_eq_true_eq, Bool.not_eq_true']
  exact ⟨⟨c1, c2⟩, Bool.eq_false_iff.mpr c3⟩
theorem rAsd_i {sp : Nat → Int32} {f : Nat → Nat} {i : Nat} (h : rAsd sp f (i + 1) = true) : ¬ sp (f (i + 1)) - sp (f i) < -1 ∧ ¬ 1 < sp (f (i + 1)) - sp (f i) ∧ ¬ rAsd sp f i = true := by
  simp only [rAsd, Bool.and_eq_true, decide_eq_true_eq, Bool.not_eq_true'] at h
  exact ⟨h.1.1, h.1.2, Bool.eq_false_iff.mp h.2⟩
theorem rBet_e {sp : Nat → Int32} {ev : Prop} [Decidable ev] {k j : Nat} (h : ev) : rBet sp ev k (some j) = true ↔ sp j < sp k := by simp only [rBet, if_pos h, decide_eq_true_eq]
theorem rBet_o {sp : Nat → Int32} {ev : Prop} [Decidable ev] {k j : Nat} (h : ¬ ev) : rBet sp ev k (some j) = true ↔ sp k < sp j := by simp only [rBet, if_neg h, decide_eq_true_eq]
theorem rLeft_t {st ti si : Nat → Int32} {s t : Int32} {k : Nat} (h : rAt st ti k s t ∧ ¬ si k = 3) : nI (rLeft st ti si s t k) + 1 = nI (rLeft st ti si s t (k + 1)) := by rw [rLeft, if_pos h]; exact nI_1 _
theorem rLeft_f {st ti si : Nat → Int32} {s t : Int32} {k : Nat} (h : ¬ (rAt st ti k s t ∧ ¬ si k = 3)) : nI (rLeft st ti si s t k) + 0 = nI (rLeft st ti si s t (k + 1)) := by rw [rLeft, if_neg h]; exact Int32.add_zero _
