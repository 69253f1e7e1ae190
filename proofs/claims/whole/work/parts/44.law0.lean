/-! THE LAW: what is fixed, what holds at a head -/
noncomputable abbrev LWd (c b : Nat → Nat) (cA cC cL : ClassId) (qo : Nat) (u : Nat → Int32) (n m : Nat) (a : Nat → Nat → Int32) (lo : Nat → Int32) (sl : Prop) (X : lS) (f : Nat → Int64) : va_W := cX c cA cC (u, n, m, lo, a, sl, X) ++ mW b cA u n m a ++ oW qo cL f
def LC (p : Program) (l : Launch) (s : State) (mi : MethodId) (cd : Code) (D : va_G) (cA cC cL : ClassId) (b0 L : Nat) (xs : Nat → Int32) (A : Nat → Prop) (zt sa : Nat) : Prop :=
  p.tables.exec = Jvm.exec ∧ cd.code = cL_law ∧ cd.maxLocals = 7 ∧ s.vm.findClass RL = some mi.cls ∧ (∀ w ∈ wsL_law, w.before #[Value.ref b0] s = true) ∧ (va_X b0 L xs s s.heap ∧ b0 < s.heap.size ∧ ¬ A b0 ∧ L ≤ 4097) ∧ (∀ q, s.heap.size ≤ q → A q) ∧ kK D (ty3 cA cC cL) s ∧ zK zt A s s.heap ∧ xK sa A s s.heap ∧ l.stackTraces = false
def LH (p : Program) (l : Launch) (e : Env) (s : State) (mi : MethodId) (below : List Frame) (meth : Method) (cd : Code) (D : va_G) (c b : Nat → Nat) (cA cC cL : ClassId) (qo b0 : Nat) (A : Nat → Prop) (Q : State → Prop) (pc j cells slots : Nat) : Prop :=
  ∀ (u : Nat → Int32) (n m : Nat) (a : Nat → Nat → Int32) (lo : Nat → Int32) (sl : Prop) (X : lS) (f : Nat → Int64) (ls : Array Slot) (H : Heap) (locs : List Loc), LI u n m a lo sl X → lv_has ls 7 [(0, .ref b0), (1, .ref (c 0)), (2, .ref (b 0)), (3, .ref qo), (4, .int (nI j))] → va_P D vwCl (LWd c b cA cC cL qo u n m a lo sl X f) H → va_D A (LWd c b cA cC cL qo u n m a lo sl X f) → va_S A s.heap H locs → W p l e room_1 s mi #[Value.ref b0] below meth cd H locs cells slots Q (F0 mi pc ls [])
theorem up_c (u : Nat → Int32) (th : Int32) : ∀ i, 1 ≤ i → i ≤ 4 → va_up u 0 th i = u i := fun i h1 _ => if_neg (by omega)
theorem clefA_c (a : Nat → Nat → Int32) (k : Nat) (p2 p3 : Int32) : ∀ i, 3 ≤ i → i ≤ 12 → rClefA a k p2 p3 i = a i := fun i h1 _ => by
  show (if i = 2 then upd (a 2) k p3 else if i = 1 then upd (a 1) k p2 else a i) = a i
  rw [if_neg (by omega), if_neg (by omega)]
