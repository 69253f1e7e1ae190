/-! THE CLAIM OUT OF ONE WALK OF THE LAW'S BODY. Your part is whole_start (and what it stands on); all else here is the same for every law, but numbers. -/
def R_law : String := "StaffHeadsLaw"
def lw_P (b : Addr) (xs : List Int32) (args : Array Value) (s : State) : Prop := args = #[.ref b] ∧ s.IntsAt b xs ∧ xs.length ≤ 4097 ∧ (Jvm.Cond.and given_1 narrow_1).before args s = true
def lw_Q (_ : Array Value) (s : State) (o : Outcome) (t : State) : Prop := o = .returned (some (.int 1)) ∧ Framed s o t [] 1080 12356
def lw_Z (below : List Frame) (a : Array Value) (s : State) : State → Prop := fun t => ∃ o, t.status = .running ∧ Ended t below o ∧ lw_Q a s o t
/-- the law's own end, with 1 on the stack, nothing written that was there before, its room as the claim has it -/
theorem lw_ret {p : Program} {l : Launch} {e : Env} {s : State} {m : MethodId} {below : List Frame} {meth : Method} {c : Code} {b : Nat} (hx : p.tables.exec = Jvm.exec) (hb : c.code = code) (hr : meth.sig.returnType = ret) (hlocks : meth.locks = false) {pc : Nat} {H : Heap} {ls : Array Slot} (hdg : decode code pc = .ok (.ireturn, 1)) : W p l e room_1 s m #[Value.ref b] below meth c H [] 1080 12356 (lw_Z below #[Value.ref b] s) (F0 m pc ls [.int 1]) := by
  intro T hT X
  obtain ⟨fs, hret, hrun, hended, hW, hframe⟩ := X.leave (v := some (.int 1)) (hlocks := hlocks) (fun h => by rw [hr] at h; cases h)
  have hmeth' : T.vm.method? m = some meth := X.method'
  refine ⟨T.setFrames fs, ?_, .returned (some (.int 1)), hrun, hended, rfl, ⟨_, rfl⟩, hW, hframe⟩
  jvm_step X.here [X.here.top, hx, hb, hdg, hmeth', hr, ret, narrow_b1]
  (try refine ⟨rfl, ?_⟩); (try refine ⟨rfl, ?_⟩)
  first | (intro acts; rw [hret _ acts rfl rfl rfl]) | rw [hret _ _ rfl rfl rfl]
  exact Steps.refl _
/-- what holds at the law's entry: the machine, the code, the tables' words (any of lw_tbl by 'hts w (by decide +kernel)'), the script of L ints xs at the cell b, what the Statement gives of the start (any of its parts by flat_of_before) -/
def lw_At (p : Program) (s : State) (m : MethodId) (meth : Method) (c : Code) (b L : Nat) (xs : Nat → Int32) : Prop :=
  p.tables.exec = Jvm.exec ∧ c.code = code ∧ meth.sig.returnType = ret ∧ c.maxLocals = 7 ∧ s.vm.findClass R_law = some m.cls ∧ (∀ w ∈ lw_tbl, w.before #[Value.ref b] s = true) ∧ va_X b L xs s s.heap ∧ b < s.heap.size ∧ meth.locks = false ∧ (Jvm.Cond.and given_1 narrow_1).before #[Value.ref b] s = true
theorem lw_flag {l : Launch} (h : l.flags = flags0) : l.stackTraces = false := by
  unfold Launch.stackTraces
  rw [h]
  decide
set_option maxHeartbeats 4000000 in
set_option maxRecDepth 100000 in
theorem whole_start {p : Program} {e : Env} {s : State} {m : MethodId} {below : List Frame} {meth : Method} {c : Code} (l : Launch) (hfl : l.stackTraces = false) {b L : Nat} {xs : Nat → Int32} (hL : L ≤ 4097) (C0 : lw_At p s m meth c b L xs) : W p l e room_1 s m #[Value.ref b] below meth c s.heap [] 0 0 (lw_Z below #[Value.ref b] s) (entryFrame m ([Value.ref b] : List Value).toArray 7) := by
  obtain ⟨hx, hb, hr, hml, hown, hts0, hX, hbl, hlk, hgv⟩ := C0
  obtain ⟨D, cA, cC, cL, hK⟩ := st_K hts0
  obtain ⟨zt, hZ⟩ := st_Z hts0 hgv
  obtain ⟨sa, hXK⟩ := st_X hts0 hgv
  have hts : ∀ w ∈ wsL_law, w.before #[Value.ref b] s = true := fun w h => hts0 w (wsL_law_in w h)
  have hA : ∀ q : Nat, s.heap.size ≤ q → (fun q => s.heap.size ≤ q) q := fun q h => h
  have hbA : ¬ (fun q => s.heap.size ≤ q) b := fun q => absurd hbl (Nat.not_lt.mpr q)
  have hKl : kK D [(cA, .int), (cC, .object "StaffHeads$Chord")] s := ⟨hK.1.sub [0, 1] rfl, hK.2⟩
  have hK1 : kK D [(cA, .int)] s := ⟨hK.1.sub [0] rfl, hK.2⟩
  have hS : va_S (fun q => s.heap.size ≤ q) s.heap s.heap [] := va_S.rf
  have hP : va_P D vwCl [] s.heap := fun k q hk => by cases hk
  have hD : va_D (fun q => s.heap.size ≤ q) [] := ⟨fun i j p q h => (by cases h), fun k q h => (by cases h)⟩
  have hC : LC p l s m c D cA cC cL b L xs (fun q => s.heap.size ≤ q) zt sa := ⟨hx, hb, hml, hown, hts, ⟨hX, hbl, hbA, hL⟩, hA, hK, hZ, hXK, hfl⟩
  have hl := lv_entry ([.ref b]) (n := 7) (Nat.le_of_ble_eq_true rfl)
  rw [lg_entry_eq]
  generalize (lg_sl ([.ref b]) ++ List.replicate (7 - (lg_sl ([.ref b])).length) Slot.unset).toArray = ls at hl ⊢
  have hl : lv_has ls 7 [(0, .ref b)] := hl
  have w5 : ∀ (i : Nat) (w : Cond), wsL_law0[i]? = some w → w.before #[Value.ref b] s = true := fun i w h => hts w (List.mem_append_left _ (List.mem_of_getElem? h))
  refine va_new (ci := 5) (fs := [.int 0, .null, .null, .null, .int 0, .int 0, .int 0]) (C := RX5) (T := TX5) (N := 7) hx hb hts inlX5 tyX5 tyX5_ok hown (w5 0 (.classLink RL 8 RX5) rfl) (w5 1 (.instantiable RX5 7) rfl) (w5 2 (.initialized RX5) rfl) hK.1 hP hD hS hA rfl (fun j hj => by rcases (show j = 0 ∨ j = 1 ∨ j = 2 ∨ j = 3 ∨ j = 4 ∨ j = 5 ∨ j = 6 by omega) with rfl | rfl | rfl | rfl | rfl | rfl | rfl <;> rfl) (Nat.le_of_ble_eq_true rfl) (Nat.le_of_ble_eq_true rfl) dL_law_0 (fun o0 H hP hD hS => ?_)
  refine lv_dup hx hb dL_law_3 rfl ?_
  refine lv_aload_n hx hb dL_law_4 rfl (lv_at hl 0 rfl) ?_
  refine lv_iconst (v := 0) hx hb dL_law_5 (by decide) ?_
  refine x_cell (rest := [.ref o0, .ref o0]) hx hb hml hown hts hX hbl hbA hS hL rfl hl.1 rfl (Nat.le_of_ble_eq_true rfl) dL_law_6 ⟨Nat.le_of_ble_eq_true rfl, Nat.le_of_ble_eq_true rfl⟩ ?_
  obtain ⟨p1, hp1⟩ : ∃ p1, p1 = (if 0 < L then xs 0 else 0) := ⟨_, rfl⟩
  rw [← hp1]
  refine wgv (S0 := (Nat → Nat) × (Nat → Int32) × (Nat → Int32)) (wr := []) (va_runI (As := [.int p1]) (rest := [.ref o0]) ⟨hx, hb, hml, hown, hts⟩ (k5_init l D cA cC o0 _ zt p1) (cwI 1 hts gL_law_X5_init rfl rfl rfl (w5 2 (.initialized RX5) rfl) (w5 11 (.methodLink RL 21 yX5_init) rfl) (w5 12 (.instanceMethod yX5_init) rfl) rfl (by decide +kernel) ⟨Nat.le_of_ble_eq_true rfl, Nat.le_of_ble_eq_true rfl⟩) (preZ hP hD hS hA hKl hZ [0] rfl (by decide)) rfl rfl hl.1 rfl (lv_room (Nat.le_of_ble_eq_true rfl)) dL_law_9 ⟨Nat.le_of_ble_eq_true rfl, Nat.le_of_ble_eq_true rfl⟩) hP hD hS hA [0] [] rfl rfl (by decide) (by decide) (fun v H1 locs hv hP1 hD1 hS => ?_)
  obtain ⟨g, uc, lo⟩ := v
  obtain ⟨hg0, ⟨hu1, hu2, hu3, hu4⟩, hlo⟩ := hv
  have hg0 : g 0 = o0 := hg0
  subst hg0
  have hP : va_P D vwCl (shW g uc ++ svW g cA 0 lo (fun _ _ => 0) ++ noW g cA 0 (fun _ _ => 0) ++ lyX g cA cC True zX) H1 := hP1
  have hD : va_D (fun q => s.heap.size ≤ q) (shW g uc ++ svW g cA 0 lo (fun _ _ => 0) ++ noW g cA 0 (fun _ _ => 0) ++ lyX g cA cC True zX) := hD1
  refine lv_astore_n (lv' := [(1, .ref (g 0)), (0, .ref b)]) hx hb dL_law_12 rfl hl (by decide) rfl (fun ls hl => ?_)
  refine va_new (ci := 6) (fs := [.int 0, .int 0, .null, .null, .int 0, .null, .null, .null, .null, .int 0, .null, .null, .null, .null, .null, .null, .int 0, .int 0, .int 0, .null, .null, .null, .null]) (C := RX6) (T := TX6) (N := 23) hx hb hts inlX6 tyX6 tyX6_ok hown (w5 3 (.classLink RL 24 RX6) rfl) (w5 4 (.instantiable RX6 23) rfl) (w5 5 (.initialized RX6) rfl) hK.1 hP hD hS hA rfl (fun j hj => by rcases (show j = 0 ∨ j = 1 ∨ j = 2 ∨ j = 3 ∨ j = 4 ∨ j = 5 ∨ j = 6 ∨ j = 7 ∨ j = 8 ∨ j = 9 ∨ j = 10 ∨ j = 11 ∨ j = 12 ∨ j = 13 ∨ j = 14 ∨ j = 15 ∨ j = 16 ∨ j = 17 ∨ j = 18 ∨ j = 19 ∨ j = 20 ∨ j = 21 ∨ j = 22 by omega) with rfl | rfl | rfl | rfl | rfl | rfl | rfl | rfl | rfl | rfl | rfl | rfl | rfl | rfl | rfl | rfl | rfl | rfl | rfl | rfl | rfl | rfl | rfl <;> rfl) (Nat.le_of_ble_eq_true rfl) (Nat.le_of_ble_eq_true rfl) dL_law_13 (fun o1 H hP hD hS => ?_)
  refine lv_dup hx hb dL_law_16 rfl ?_
  refine lv_aload_n hx hb dL_law_17 rfl (lv_at hl 1 rfl) ?_
  refine lv_iconst (v := 0) hx hb dL_law_18 (by decide) ?_
  refine x_cell (rest := [.ref o1, .ref o1]) hx hb hml hown hts hX hbl hbA hS hL rfl hl.1 rfl (Nat.le_of_ble_eq_true rfl) dL_law_19 ⟨Nat.le_of_ble_eq_true rfl, Nat.le_of_ble_eq_true rfl⟩ ?_
  rw [← hp1]
  refine wgv (S0 := (Nat → Nat) × (Nat → Int32) × (Nat → Int32)) (wr := shW g uc ++ svW g cA 0 lo (fun _ _ => 0) ++ noW g cA 0 (fun _ _ => 0) ++ lyX g cA cC True zX) (va_runI (As := [.int p1]) (rest := [.ref o1]) ⟨hx, hb, hml, hown, hts⟩ (k6_init l D cA cC o1 _ p1) (cwI 1 hts gL_law_X6_init rfl rfl rfl (w5 5 (.initialized RX6) rfl) (w5 95 (.methodLink RL 26 yX6_init) rfl) (w5 96 (.instanceMethod yX6_init) rfl) rfl (by decide +kernel) ⟨Nat.le_of_ble_eq_true rfl, Nat.le_of_ble_eq_true rfl⟩) (preW hP hD hK1 [37] rfl (by decide)) rfl rfl hl.1 rfl (lv_room (Nat.le_of_ble_eq_true rfl)) dL_law_22 ⟨Nat.le_of_ble_eq_true rfl, Nat.le_of_ble_eq_true rfl⟩) hP hD hS hA [37] (List.range 37) rfl rfl (by decide) (by decide) (fun v H2 locs hv hP2 hD2 hS => ?_)
  obtain ⟨bm, u, f2⟩ := v
  obtain ⟨hb0, ⟨hv1, hv2, hv3, hv4⟩, hf2⟩ := hv
  have hb0 : bm 0 = o1 := hb0
  subst hb0
  have hP : va_P D vwCl (shW g uc ++ svW g cA 0 lo (fun _ _ => 0) ++ noW g cA 0 (fun _ _ => 0) ++ lyX g cA cC True zX ++ mW bm cA u 0 0 (va_up (fun _ _ => 0) 2 f2)) H2 := hP2
  have hD : va_D (fun q => s.heap.size ≤ q) (shW g uc ++ svW g cA 0 lo (fun _ _ => 0) ++ noW g cA 0 (fun _ _ => 0) ++ lyX g cA cC True zX ++ mW bm cA u 0 0 (va_up (fun _ _ => 0) 2 f2)) := hD2
  refine lv_astore_n (lv' := [(2, .ref (bm 0)), (1, .ref (g 0)), (0, .ref b)]) hx hb dL_law_25 rfl hl (by decide) rfl (fun ls hl => ?_)
  refine lv_iconst (v := 1) hx hb dL_law_26 (by decide) ?_
  refine x_newl hx hb (w5 6 (.arrayClass .long) rfl) hK hP hD hS hA 2 rfl 1 (by decide) (by decide) (by decide) (Nat.le_of_ble_eq_true rfl) (Nat.le_of_ble_eq_true rfl) dL_law_27 (fun qo H hP hD hS => ?_)
  refine lv_astore_n (lv' := [(3, .ref qo), (2, .ref (bm 0)), (1, .ref (g 0)), (0, .ref b)]) hx hb dL_law_29 rfl hl (by decide) rfl (fun ls hl => ?_)
  refine lv_iconst (v := 1) hx hb dL_law_30 (by decide) ?_
  refine x_tp (y := nI (8 * 0 + 1)) rfl ?_
  refine lv_istore (lv' := [(4, .int (nI (8 * 0 + 1))), (3, .ref qo), (2, .ref (bm 0)), (1, .ref (g 0)), (0, .ref b)]) hx hb dL_law_31 hl (by decide) rfl (fun ls hl => ?_)
  have e9 : cX g cA cC (uc, 0, 0, lo, (fun _ _ => 0), True, zX) = cX g cA cC (u, 0, 0, lo, va_up (fun _ _ => 0) 2 f2, True, zX) := cX_c (fun i h1 h2 => by rcases (show i = 1 ∨ i = 2 ∨ i = 3 ∨ i = 4 by omega) with rfl | rfl | rfl | rfl; (exact hv1.trans hu1.symm); (exact hv2.trans hu2.symm); (exact hv3.trans hu3.symm); (exact hv4.trans hu4.symm)) (fun i h1 h2 => if_neg (by omega))
  have hP : va_P D vwCl (cX g cA cC (uc, 0, 0, lo, (fun _ _ => 0), True, zX) ++ mW bm cA u 0 0 (va_up (fun _ _ => 0) 2 f2) ++ oW qo cL (fun _ => 0)) H := hP
  have hD : va_D (fun q => s.heap.size ≤ q) (cX g cA cC (uc, 0, 0, lo, (fun _ _ => 0), True, zX) ++ mW bm cA u 0 0 (va_up (fun _ _ => 0) 2 f2) ++ oW qo cL (fun _ => 0)) := hD
  rw [e9] at hP hD
  have hI : LI u 0 0 (va_up (fun _ _ => 0) 2 f2) lo True zX := by
    have hv2 : u 2 = 2 := hv2
    have hv3 : u 3 = 6 := hv3
    refine ⟨⟨Nat.zero_le _, Nat.zero_le _, fun k h => absurd h (Nat.not_lt_zero k), fun k h => absurd h (Nat.not_lt_zero k), fun k h => absurd h (Nat.not_lt_zero k), fun k h => absurd h (Nat.not_lt_zero k), fun k h => absurd h (Nat.not_lt_zero k), fun j hj => ?_⟩, fun j hj => ?_, ⟨fun j => Nat.zero_lt_succ _, fun v i => Nat.zero_lt_succ _, fun i => Nat.zero_lt_succ _⟩, fun q => absurd trivial q, ?_, ?_⟩
    · show 1 ≤ (f2 j).toInt ∧ (f2 j).toInt ≤ 5
      have := hf2 j hj
      have e : f2 j = 2 := this
      rw [e]; decide
    · have e : f2 j = 2 := hf2 j hj
      show lo j = rClef 0 - 2 * (f2 j - 1)
      rw [e]; exact hlo j hj
    · rw [hv2]; decide
    · rw [hv3]; decide
  have E : ∀ i, i ≤ 512 → LH p l e s m below meth c D g bm cA cC cL qo b (fun q => s.heap.size ≤ q) (lw_Z below #[Value.ref b] s) 738 (8 * i + 1) (55 + i) (4158 + 6 * i) := by
    intro i hi u n m1 a lo sl X f ls H locs hI hl hP hD hS
    refine lv_iconst (v := 1) hx hb dL_law_738 (by decide) ?_
    refine va_forget (fun q hq => hS.2.2 q hq) ?_
    refine W.widen (k := 1080) (n := 12356) (by omega) (by omega) ?_
    exact lw_ret hx hb hr hlk dL_law_739
  have h9 := law_loop (k0 := 55) (n0 := 4158) hC (by omega) E 513 0 (Nat.zero_le _) (by omega) u 0 0 (va_up (fun _ _ => 0) 2 f2) lo True zX (fun _ => 0) ls H locs hI (lv_sub hl [4, 3, 2, 1, 0] rfl) hP hD hS
  exact h9
set_option maxHeartbeats 4000000 in
theorem lw_walk (l : Launch) (hfl : l.stackTraces = false) (b : Addr) (xs : List Int32) : MetFree l x (headSpec (Jvm.Cond.code x code maxLocals ret :: tables_1) room_1) (lw_P b xs) (fun _ _ _ _ _ => True) lw_Q := by
  refine MetFree.of_bodyS (code := code) (maxLocals := maxLocals) (ret := ret) (by decide) ?_ ?_
  · intro args s m h hn
    obtain ⟨meth, c, h1, h2, h3, h4, h5, h6, -, -⟩ := Cond.code_spec hn (atoms_spec (ws := Jvm.Cond.code x code maxLocals ret :: tables_1) h _ List.mem_cons_self)
    exact ⟨meth, c, h1, h2, h3, h4, h5, h6⟩
  · intro p e s m args below meth c s₁ B hml0 hP _
    obtain ⟨rfl, hx, hbd, hgv⟩ := hP
    obtain ⟨scr, harrAt, hlist, hof, hsmall⟩ := hx
    obtain ⟨hcb, hkn, -, -⟩ := State.arrayAt?_spec harrAt
    have hown : s.vm.findClass R_law = some m.cls := findClass_of_methodNamed B.named
    have hts0 : ∀ c ∈ (Jvm.Cond.code x code maxLocals ret :: tables_1), c.before #[Value.ref b] s = true := atoms_spec (ws := Jvm.Cond.code x code maxLocals ret :: tables_1) B.pre
    have hts : ∀ w ∈ lw_tbl, w.before #[Value.ref b] s = true := k2_hts_sels lw_privs (fun w hw => hts0 w (List.mem_cons_of_mem _ hw)) lw_privs_ok
    have hml : c.maxLocals = 7 := B.maxLocals_eq (hts0 _ List.mem_cons_self)
    have X₀ : Stand p l e room_1 s m #[Value.ref b] below meth c s₁ [] 0 0 := Stand.of_body B
    have hh0 : s₁.heap = s.heap := by rw [B.state]; rfl
    have hsz : scr.slots.size = xs.length := by rw [← Array.length_toList, hlist, List.length_map]
    have hval : ∀ j : Nat, j < xs.length → scr.slots[j]? = some (.int (xs.getD j 0)) := fun j hj => by
      rw [← Array.getElem?_toList, hlist]
      simp [hj]
    have hbl : b < s.heap.size := (Array.getElem?_eq_some_iff.mp hcb).1
    have hX : va_X b xs.length (fun j => xs.getD j 0) s s.heap := ⟨scr, hcb, hof, hkn, hsz, hval⟩
    have K : W p l e room_1 s m #[Value.ref b] below meth c s₁.heap [] 0 0 (lw_Z below #[Value.ref b] s) (entryFrame m ([Value.ref b] : List Value).toArray 7) := by
      rw [hh0]
      exact whole_start l hfl hbd ⟨B.exec, B.bytes, B.returns, hml, hown, hts, hX, hbl, B.notSynchronized, hgv⟩
    obtain ⟨t, a1, o, b1, b2, b3⟩ := K s₁ rfl X₀
    exact ⟨t, o, a1, b1, b2, b3⟩
theorem lw_pre_spec {args : Array Value} {s : State} (h : (Jvm.Cond.and given_1 narrow_1).before args s = true) (hr : rest_1_c.before args s = true) : ∃ (b : Addr) (xs : List Int32), lw_P b xs args s := by
  have hs := flat_of_before _ h
  have hq := flat_of_before _ hr
  have hc : (Cond.count 1).before args s = true := hs _ (by decide +kernel)
  have harr : (Cond.arrayOf (.arg 0) .int).before args s = true := hs _ (by decide +kernel)
  have hle : (Cond.le (.length (.arg 0)) (.int 4097)).before args s = true := hs _ (by decide +kernel)
  have hlen : (Cond.isInt (.length (.arg 0))).before args s = true := hq _ (by decide +kernel)
  have hall : (Cond.all (.arg 0) (.isInt (.elem (.arg 0) (.index 0)))).before args s = true := hq _ (by decide +kernel)
  obtain ⟨b, xs, hb, hx⟩ := State.ints_of_pre rfl harr hlen hall
  have hsm : xs.length < 2 ^ 31 := hx.choose_spec.2.2.2
  have hev : (Term.length (.arg 0)).eval args s none [] s = some (.int xs.length.toInt32) := hx.length_eval hb
  have hv := Cond.le_ints hev (show (Term.int 4097).eval args s none [] s = some (.int 4097) from rfl)
  have hd : xs.length.toInt32 ≤ 4097 := by
    simpa [Cond.before, Cond.holds, hv] using hle
  have hN : xs.length ≤ 4097 := (Int32.ofNat_le_ofNat hsm (by decide)).mp (show Int32.ofNat xs.length ≤ Int32.ofNat 4097 from hd)
  exact ⟨b, xs, Cond.one_arg hc (show args[0]? = some (.ref b) from hb), hx, hN, h⟩
theorem lw_comes (l : Launch) (hfl : l.stackTraces = false) : Comes l x (Jvm.Cond.code x code maxLocals ret :: tables_1) room_1 (fun tb e args s => Calls_1 tb e args s ∧ rest_1 tb e args s ∧ Pre_1 tb e args s)
    (fun _ _ args s o t => lw_Q args s o t) := by
  intro p e ha hc hk s m args below hf hfit hheap happ hpre
  obtain ⟨b, xs, hP⟩ := lw_pre_spec hpre.2.2 hpre.2.1
  obtain ⟨k, o, h1, h2, h3, hQ⟩ := lw_walk l hfl b xs p e ha hc hk s m args below hf ((Spec.applies_iff_loose hf).mp happ).1 hP trivial
  exact ⟨k, o, h1, h2, h3, hQ⟩
theorem lw_frame {s t : State} {o : Outcome} {args : Array Value} (h : Framed s o t [] 1080 12356) :
    Framed s o t (fieldLocs frame_1_writes args s ++ arrayLocs frame_1_arrays args s ++ staticLocs frame_1_statics s) 1080 12356 := h
theorem lw_limb (L : Cond) (hL : ∀ (args : Array Value) (s t : State), L.after args s (.returned (some (.int 1))) t = true) :
    ArmFor flags0 classFile x code maxLocals ret World_1 tables_1 room_1 Calls_1 rest_1 Pre_1
      (fun tb e a s o t => postC L tb e a s o t ∧ Framed s o t (fieldLocs frame_1_writes a s ++ arrayLocs frame_1_arrays a s ++ staticLocs frame_1_statics s) 1080 12356) := by
  intro l hfl _ _ p e ha hc hk s m args below hf hfit hheap happ hpre
  obtain ⟨k, o, h1, h2, h3, rfl, hF⟩ := lw_comes l (lw_flag hfl) p e ha hc hk s m args below hf hfit hheap happ hpre
  exact ⟨k, _, h1, h2, h3, hL args s _, lw_frame hF⟩
theorem i_vc : Claimed_1_1 ∧ Claimed_1_2 := ⟨lw_limb limb_1_1 (fun args s t => by simp [limb_1_1, Cond.after, Cond.holds, Cond.value]), lw_limb limb_1_2 (fun args s t => Cond.after_iff.mpr (by
  first | (rw [show limb_1_2 = Cond.eq .result (.int 1) from rfl, Cond.eq_ints (x := 1) (y := 1) rfl rfl]; simp; done) | (simp [limb_1_2, Cond.value, Term.eval]; done)))⟩
